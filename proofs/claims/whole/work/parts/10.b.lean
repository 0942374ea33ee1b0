theorem d_Cm_takeTurn_0 : decode prog_2_method_11_code 0 = .ok (.iload_n 1, 1) := by decide +kernel
theorem d_Cm_takeTurn_1 : decode prog_2_method_11_code 1 = .ok (.bipush 10, 2) := by decide +kernel
theorem d_Cm_takeTurn_3 : decode prog_2_method_11_code 3 = .ok (.idiv, 1) := by decide +kernel
theorem d_Cm_takeTurn_4 : decode prog_2_method_11_code 4 = .ok (.istore_n 2, 1) := by decide +kernel
theorem d_Cm_takeTurn_5 : decode prog_2_method_11_code 5 = .ok (.iload_n 1, 1) := by decide +kernel
theorem d_Cm_takeTurn_6 : decode prog_2_method_11_code 6 = .ok (.bipush 10, 2) := by decide +kernel
theorem d_Cm_takeTurn_8 : decode prog_2_method_11_code 8 = .ok (.irem, 1) := by decide +kernel
theorem d_Cm_takeTurn_9 : decode prog_2_method_11_code 9 = .ok (.istore_n 3, 1) := by decide +kernel
theorem d_Cm_takeTurn_10 : decode prog_2_method_11_code 10 = .ok (.aload_n 0, 1) := by decide +kernel
theorem d_Cm_takeTurn_11 : decode prog_2_method_11_code 11 = .ok (.iload_n 2, 1) := by decide +kernel
theorem d_Cm_takeTurn_12 : decode prog_2_method_11_code 12 = .ok (.invokevirtual 94, 3) := by decide +kernel
theorem d_Cm_takeTurn_15 : decode prog_2_method_11_code 15 = .ok (.ifCond .eq 25, 3) := by decide +kernel
theorem d_Cm_takeTurn_18 : decode prog_2_method_11_code 18 = .ok (.aload_n 0, 1) := by decide +kernel
theorem d_Cm_takeTurn_19 : decode prog_2_method_11_code 19 = .ok (.iload_n 3, 1) := by decide +kernel
theorem d_Cm_takeTurn_20 : decode prog_2_method_11_code 20 = .ok (.invokevirtual 75, 3) := by decide +kernel
theorem d_Cm_takeTurn_23 : decode prog_2_method_11_code 23 = .ok (.ifCond .eq 17, 3) := by decide +kernel
theorem d_Cm_takeTurn_26 : decode prog_2_method_11_code 26 = .ok (.aload_n 0, 1) := by decide +kernel
theorem d_Cm_takeTurn_27 : decode prog_2_method_11_code 27 = .ok (.getfield 20, 3) := by decide +kernel
theorem d_Cm_takeTurn_30 : decode prog_2_method_11_code 30 = .ok (.iload_n 2, 1) := by decide +kernel
theorem d_Cm_takeTurn_31 : decode prog_2_method_11_code 31 = .ok (.aaload, 1) := by decide +kernel
theorem d_Cm_takeTurn_32 : decode prog_2_method_11_code 32 = .ok (.iconst 3, 1) := by decide +kernel
theorem d_Cm_takeTurn_33 : decode prog_2_method_11_code 33 = .ok (.dup2, 1) := by decide +kernel
theorem d_Cm_takeTurn_34 : decode prog_2_method_11_code 34 = .ok (.iaload, 1) := by decide +kernel
theorem d_Cm_takeTurn_35 : decode prog_2_method_11_code 35 = .ok (.iconst 1, 1) := by decide +kernel
theorem d_Cm_takeTurn_36 : decode prog_2_method_11_code 36 = .ok (.iload_n 3, 1) := by decide +kernel
theorem d_Cm_takeTurn_37 : decode prog_2_method_11_code 37 = .ok (.ishl, 1) := by decide +kernel
theorem d_Cm_takeTurn_38 : decode prog_2_method_11_code 38 = .ok (.ixor, 1) := by decide +kernel
theorem d_Cm_takeTurn_39 : decode prog_2_method_11_code 39 = .ok (.iastore, 1) := by decide +kernel
theorem d_Cm_takeTurn_40 : decode prog_2_method_11_code 40 = .ok (.return_, 1) := by decide +kernel
theorem d_Cm_arriveAt_0 : decode prog_2_method_13_code 0 = .ok (.aload_n 1, 1) := by decide +kernel
theorem d_Cm_arriveAt_1 : decode prog_2_method_13_code 1 = .ok (.iconst 4, 1) := by decide +kernel
theorem d_Cm_arriveAt_2 : decode prog_2_method_13_code 2 = .ok (.aload_n 1, 1) := by decide +kernel
theorem d_Cm_arriveAt_3 : decode prog_2_method_13_code 3 = .ok (.iconst 4, 1) := by decide +kernel
theorem d_Cm_arriveAt_4 : decode prog_2_method_13_code 4 = .ok (.iaload, 1) := by decide +kernel
theorem d_Cm_arriveAt_5 : decode prog_2_method_13_code 5 = .ok (.iconst 1, 1) := by decide +kernel
theorem d_Cm_arriveAt_6 : decode prog_2_method_13_code 6 = .ok (.iadd, 1) := by decide +kernel
theorem d_Cm_arriveAt_7 : decode prog_2_method_13_code 7 = .ok (.sipush 9999, 3) := by decide +kernel
theorem d_Cm_arriveAt_10 : decode prog_2_method_13_code 10 = .ok (.invokestatic 91, 3) := by decide +kernel
theorem d_Cm_arriveAt_13 : decode prog_2_method_13_code 13 = .ok (.iastore, 1) := by decide +kernel
theorem d_Cm_arriveAt_14 : decode prog_2_method_13_code 14 = .ok (.aload_n 2, 1) := by decide +kernel
theorem d_Cm_arriveAt_15 : decode prog_2_method_13_code 15 = .ok (.iconst 2, 1) := by decide +kernel
theorem d_Cm_arriveAt_16 : decode prog_2_method_13_code 16 = .ok (.aload_n 2, 1) := by decide +kernel
theorem d_Cm_arriveAt_17 : decode prog_2_method_13_code 17 = .ok (.iconst 2, 1) := by decide +kernel
theorem d_Cm_arriveAt_18 : decode prog_2_method_13_code 18 = .ok (.iaload, 1) := by decide +kernel
theorem d_Cm_arriveAt_19 : decode prog_2_method_13_code 19 = .ok (.iconst 1, 1) := by decide +kernel
theorem d_Cm_arriveAt_20 : decode prog_2_method_13_code 20 = .ok (.iadd, 1) := by decide +kernel
theorem d_Cm_arriveAt_21 : decode prog_2_method_13_code 21 = .ok (.sipush 9999, 3) := by decide +kernel
theorem d_Cm_arriveAt_24 : decode prog_2_method_13_code 24 = .ok (.invokestatic 91, 3) := by decide +kernel
theorem d_Cm_arriveAt_27 : decode prog_2_method_13_code 27 = .ok (.iastore, 1) := by decide +kernel
theorem d_Cm_arriveAt_28 : decode prog_2_method_13_code 28 = .ok (.aload_n 1, 1) := by decide +kernel
theorem d_Cm_arriveAt_29 : decode prog_2_method_13_code 29 = .ok (.iconst 3, 1) := by decide +kernel
theorem d_Cm_arriveAt_30 : decode prog_2_method_13_code 30 = .ok (.iaload, 1) := by decide +kernel
theorem d_Cm_arriveAt_31 : decode prog_2_method_13_code 31 = .ok (.iload_n 3, 1) := by decide +kernel
theorem d_Cm_arriveAt_32 : decode prog_2_method_13_code 32 = .ok (.ishr, 1) := by decide +kernel
theorem d_Cm_arriveAt_33 : decode prog_2_method_13_code 33 = .ok (.iconst 1, 1) := by decide +kernel
theorem d_Cm_arriveAt_34 : decode prog_2_method_13_code 34 = .ok (.iand, 1) := by decide +kernel
theorem d_Cm_arriveAt_35 : decode prog_2_method_13_code 35 = .ok (.iconst 1, 1) := by decide +kernel
theorem d_Cm_arriveAt_36 : decode prog_2_method_13_code 36 = .ok (.if_icmp .ne 7, 3) := by decide +kernel
theorem d_Cm_arriveAt_39 : decode prog_2_method_13_code 39 = .ok (.iconst 1, 1) := by decide +kernel
theorem d_Cm_arriveAt_40 : decode prog_2_method_13_code 40 = .ok (.goto 4, 3) := by decide +kernel
theorem d_Cm_arriveAt_43 : decode prog_2_method_13_code 43 = .ok (.iconst 0, 1) := by decide +kernel
theorem d_Cm_arriveAt_44 : decode prog_2_method_13_code 44 = .ok (.istore 4, 2) := by decide +kernel
theorem d_Cm_arriveAt_46 : decode prog_2_method_13_code 46 = .ok (.aload_n 2, 1) := by decide +kernel
theorem d_Cm_arriveAt_47 : decode prog_2_method_13_code 47 = .ok (.iconst 0, 1) := by decide +kernel
theorem d_Cm_arriveAt_48 : decode prog_2_method_13_code 48 = .ok (.iaload, 1) := by decide +kernel
theorem d_Cm_arriveAt_49 : decode prog_2_method_13_code 49 = .ok (.iload 4, 2) := by decide +kernel
theorem d_Cm_arriveAt_51 : decode prog_2_method_13_code 51 = .ok (.invokestatic 104, 3) := by decide +kernel
theorem d_Cm_arriveAt_54 : decode prog_2_method_13_code 54 = .ok (.ifCond .eq 15, 3) := by decide +kernel
theorem d_Cm_arriveAt_57 : decode prog_2_method_13_code 57 = .ok (.aload_n 1, 1) := by decide +kernel
theorem d_Cm_arriveAt_58 : decode prog_2_method_13_code 58 = .ok (.iconst 3, 1) := by decide +kernel
theorem d_Cm_arriveAt_59 : decode prog_2_method_13_code 59 = .ok (.dup2, 1) := by decide +kernel
theorem d_Cm_arriveAt_60 : decode prog_2_method_13_code 60 = .ok (.iaload, 1) := by decide +kernel
theorem d_Cm_arriveAt_61 : decode prog_2_method_13_code 61 = .ok (.iconst 1, 1) := by decide +kernel
theorem d_Cm_arriveAt_62 : decode prog_2_method_13_code 62 = .ok (.iload_n 3, 1) := by decide +kernel
theorem d_Cm_arriveAt_63 : decode prog_2_method_13_code 63 = .ok (.ishl, 1) := by decide +kernel
theorem d_Cm_arriveAt_64 : decode prog_2_method_13_code 64 = .ok (.ior, 1) := by decide +kernel
theorem d_Cm_arriveAt_65 : decode prog_2_method_13_code 65 = .ok (.iastore, 1) := by decide +kernel
theorem d_Cm_arriveAt_66 : decode prog_2_method_13_code 66 = .ok (.goto 14, 3) := by decide +kernel
theorem d_Cm_arriveAt_69 : decode prog_2_method_13_code 69 = .ok (.aload_n 1, 1) := by decide +kernel
theorem d_Cm_arriveAt_70 : decode prog_2_method_13_code 70 = .ok (.iconst 3, 1) := by decide +kernel
theorem d_Cm_arriveAt_71 : decode prog_2_method_13_code 71 = .ok (.dup2, 1) := by decide +kernel
theorem d_Cm_arriveAt_72 : decode prog_2_method_13_code 72 = .ok (.iaload, 1) := by decide +kernel
theorem d_Cm_arriveAt_73 : decode prog_2_method_13_code 73 = .ok (.iconst 1, 1) := by decide +kernel
theorem d_Cm_arriveAt_74 : decode prog_2_method_13_code 74 = .ok (.iload_n 3, 1) := by decide +kernel
theorem d_Cm_arriveAt_75 : decode prog_2_method_13_code 75 = .ok (.ishl, 1) := by decide +kernel
theorem d_Cm_arriveAt_76 : decode prog_2_method_13_code 76 = .ok (.iconst (-1), 1) := by decide +kernel
theorem d_Cm_arriveAt_77 : decode prog_2_method_13_code 77 = .ok (.ixor, 1) := by decide +kernel
theorem d_Cm_arriveAt_78 : decode prog_2_method_13_code 78 = .ok (.iand, 1) := by decide +kernel
theorem d_Cm_arriveAt_79 : decode prog_2_method_13_code 79 = .ok (.iastore, 1) := by decide +kernel
theorem d_Cm_arriveAt_80 : decode prog_2_method_13_code 80 = .ok (.return_, 1) := by decide +kernel
theorem d_Cm_walk_0 : decode prog_2_method_12_code 0 = .ok (.iload_n 3, 1) := by decide +kernel
theorem d_Cm_walk_1 : decode prog_2_method_12_code 1 = .ok (.ifCond .eq 41, 3) := by decide +kernel
theorem d_Cm_walk_4 : decode prog_2_method_12_code 4 = .ok (.aload_n 0, 1) := by decide +kernel
theorem d_Cm_walk_5 : decode prog_2_method_12_code 5 = .ok (.getfield 17, 3) := by decide +kernel
theorem d_Cm_walk_8 : decode prog_2_method_12_code 8 = .ok (.iload_n 2, 1) := by decide +kernel
theorem d_Cm_walk_9 : decode prog_2_method_12_code 9 = .ok (.aaload, 1) := by decide +kernel
theorem d_Cm_walk_10 : decode prog_2_method_12_code 10 = .ok (.iconst 1, 1) := by decide +kernel
theorem d_Cm_walk_11 : decode prog_2_method_12_code 11 = .ok (.iaload, 1) := by decide +kernel
theorem d_Cm_walk_12 : decode prog_2_method_12_code 12 = .ok (.aload_n 1, 1) := by decide +kernel
theorem d_Cm_walk_13 : decode prog_2_method_12_code 13 = .ok (.iconst 0, 1) := by decide +kernel
theorem d_Cm_walk_14 : decode prog_2_method_12_code 14 = .ok (.iaload, 1) := by decide +kernel
theorem d_Cm_walk_15 : decode prog_2_method_12_code 15 = .ok (.isub, 1) := by decide +kernel
theorem d_Cm_walk_16 : decode prog_2_method_12_code 16 = .ok (.istore 4, 2) := by decide +kernel
theorem d_Cm_walk_18 : decode prog_2_method_12_code 18 = .ok (.aload_n 1, 1) := by decide +kernel
theorem d_Cm_walk_19 : decode prog_2_method_12_code 19 = .ok (.iconst 0, 1) := by decide +kernel
theorem d_Cm_walk_20 : decode prog_2_method_12_code 20 = .ok (.dup2, 1) := by decide +kernel
theorem d_Cm_walk_21 : decode prog_2_method_12_code 21 = .ok (.iaload, 1) := by decide +kernel
theorem d_Cm_walk_22 : decode prog_2_method_12_code 22 = .ok (.aload_n 1, 1) := by decide +kernel
theorem d_Cm_walk_23 : decode prog_2_method_12_code 23 = .ok (.iconst 2, 1) := by decide +kernel
theorem d_Cm_walk_24 : decode prog_2_method_12_code 24 = .ok (.iaload, 1) := by decide +kernel
theorem d_Cm_walk_25 : decode prog_2_method_12_code 25 = .ok (.ineg, 1) := by decide +kernel
theorem d_Cm_walk_26 : decode prog_2_method_12_code 26 = .ok (.aload_n 1, 1) := by decide +kernel
theorem d_Cm_walk_27 : decode prog_2_method_12_code 27 = .ok (.iconst 2, 1) := by decide +kernel
theorem d_Cm_walk_28 : decode prog_2_method_12_code 28 = .ok (.iaload, 1) := by decide +kernel
theorem d_Cm_walk_29 : decode prog_2_method_12_code 29 = .ok (.iload 4, 2) := by decide +kernel
theorem d_Cm_walk_31 : decode prog_2_method_12_code 31 = .ok (.invokestatic 91, 3) := by decide +kernel
theorem d_Cm_walk_34 : decode prog_2_method_12_code 34 = .ok (.invokestatic 97, 3) := by decide +kernel
theorem d_Cm_walk_37 : decode prog_2_method_12_code 37 = .ok (.iadd, 1) := by decide +kernel
theorem d_Cm_walk_38 : decode prog_2_method_12_code 38 = .ok (.iastore, 1) := by decide +kernel
theorem d_Cm_walk_39 : decode prog_2_method_12_code 39 = .ok (.goto 28, 3) := by decide +kernel
theorem d_Cm_walk_42 : decode prog_2_method_12_code 42 = .ok (.aload_n 1, 1) := by decide +kernel
theorem d_Cm_walk_43 : decode prog_2_method_12_code 43 = .ok (.iconst 0, 1) := by decide +kernel
theorem d_Cm_walk_44 : decode prog_2_method_12_code 44 = .ok (.aload_n 1, 1) := by decide +kernel
theorem d_Cm_walk_45 : decode prog_2_method_12_code 45 = .ok (.iconst 0, 1) := by decide +kernel
theorem d_Cm_walk_46 : decode prog_2_method_12_code 46 = .ok (.iaload, 1) := by decide +kernel
theorem d_Cm_walk_47 : decode prog_2_method_12_code 47 = .ok (.iconst 1, 1) := by decide +kernel
theorem d_Cm_walk_48 : decode prog_2_method_12_code 48 = .ok (.iadd, 1) := by decide +kernel
theorem d_Cm_walk_49 : decode prog_2_method_12_code 49 = .ok (.bipush 16, 2) := by decide +kernel
theorem d_Cm_walk_51 : decode prog_2_method_12_code 51 = .ok (.irem, 1) := by decide +kernel
theorem d_Cm_walk_52 : decode prog_2_method_12_code 52 = .ok (.iastore, 1) := by decide +kernel
theorem d_Cm_walk_53 : decode prog_2_method_12_code 53 = .ok (.aload_n 1, 1) := by decide +kernel
theorem d_Cm_walk_54 : decode prog_2_method_12_code 54 = .ok (.iconst 5, 1) := by decide +kernel
theorem d_Cm_walk_55 : decode prog_2_method_12_code 55 = .ok (.aload_n 1, 1) := by decide +kernel
theorem d_Cm_walk_56 : decode prog_2_method_12_code 56 = .ok (.iconst 5, 1) := by decide +kernel
theorem d_Cm_walk_57 : decode prog_2_method_12_code 57 = .ok (.iaload, 1) := by decide +kernel
theorem d_Cm_walk_58 : decode prog_2_method_12_code 58 = .ok (.iconst 1, 1) := by decide +kernel
theorem d_Cm_walk_59 : decode prog_2_method_12_code 59 = .ok (.iadd, 1) := by decide +kernel
theorem d_Cm_walk_60 : decode prog_2_method_12_code 60 = .ok (.sipush 9999, 3) := by decide +kernel
theorem d_Cm_walk_63 : decode prog_2_method_12_code 63 = .ok (.invokestatic 91, 3) := by decide +kernel
theorem d_Cm_walk_66 : decode prog_2_method_12_code 66 = .ok (.iastore, 1) := by decide +kernel
theorem d_Cm_walk_67 : decode prog_2_method_12_code 67 = .ok (.aload_n 1, 1) := by decide +kernel
theorem d_Cm_walk_68 : decode prog_2_method_12_code 68 = .ok (.iconst 0, 1) := by decide +kernel
theorem d_Cm_walk_69 : decode prog_2_method_12_code 69 = .ok (.iaload, 1) := by decide +kernel
theorem d_Cm_walk_70 : decode prog_2_method_12_code 70 = .ok (.aload_n 0, 1) := by decide +kernel
theorem d_Cm_walk_71 : decode prog_2_method_12_code 71 = .ok (.getfield 17, 3) := by decide +kernel
theorem d_Cm_walk_74 : decode prog_2_method_12_code 74 = .ok (.iload_n 2, 1) := by decide +kernel
theorem d_Cm_walk_75 : decode prog_2_method_12_code 75 = .ok (.aaload, 1) := by decide +kernel
theorem d_Cm_walk_76 : decode prog_2_method_12_code 76 = .ok (.iconst 1, 1) := by decide +kernel
theorem d_Cm_walk_77 : decode prog_2_method_12_code 77 = .ok (.iaload, 1) := by decide +kernel
theorem d_Cm_walk_78 : decode prog_2_method_12_code 78 = .ok (.if_icmp .ne 15, 3) := by decide +kernel
theorem d_Cm_walk_81 : decode prog_2_method_12_code 81 = .ok (.aload_n 0, 1) := by decide +kernel
theorem d_Cm_walk_82 : decode prog_2_method_12_code 82 = .ok (.aload_n 1, 1) := by decide +kernel
theorem d_Cm_walk_83 : decode prog_2_method_12_code 83 = .ok (.aload_n 0, 1) := by decide +kernel
theorem d_Cm_walk_84 : decode prog_2_method_12_code 84 = .ok (.getfield 17, 3) := by decide +kernel
theorem d_Cm_walk_87 : decode prog_2_method_12_code 87 = .ok (.iload_n 2, 1) := by decide +kernel
theorem d_Cm_walk_88 : decode prog_2_method_12_code 88 = .ok (.aaload, 1) := by decide +kernel
theorem d_Cm_walk_89 : decode prog_2_method_12_code 89 = .ok (.iload_n 2, 1) := by decide +kernel
theorem d_Cm_walk_90 : decode prog_2_method_12_code 90 = .ok (.invokevirtual 100, 3) := by decide +kernel
theorem d_Cm_walk_93 : decode prog_2_method_12_code 93 = .ok (.return_, 1) := by decide +kernel
set_option maxHeartbeats 1000000 in
set_option maxRecDepth 20000 in
theorem c_Cm_takeTurn (l : Launch) (E : QE) (k : Nat) (hk : k < 3) (S : QM) (ρ : Nat → Int32) (hρ : S k = ρ) (hwf : WF ρ) (tn : Int32) : qCV E l y_Cm_takeTurn prog_2_method_11_code 4 2 [.ref (eA E (cB k)), .int tn] S (qr S k (listS ρ tn)) := by
  refine qCV_of (by decide) (Nat.le_of_ble_eq_true rfl) (fun p e s m below meth c ls X hW hl => ?_)
  have hl : lv_has ls 4 [(0, .ref (eA E (cB k))), (1, .int tn)] := hl
  have htl := hwf.tl
  have hwl := hwf.wl
  have hdl := hwf.dl
  refine lv_iload_n X.x X.b d_Cm_takeTurn_0 rfl (lv_at hl 1 rfl) ?_
  refine lv_bipush (v := nI 10) X.x X.b d_Cm_takeTurn_1 (by decide) ?_
  refine lv_idiv X.x X.b d_Cm_takeTurn_3 (by decide) ?_
  refine lv_topi (fun x3 ex3 => ?_)
  refine lv_istore_n (lv' := [(2, .int x3), (0, .ref (eA E (cB k))), (1, .int tn)]) X.x X.b d_Cm_takeTurn_4 rfl hl (by decide) rfl (fun ls hl => ?_)
  refine lv_iload_n X.x X.b d_Cm_takeTurn_5 rfl (lv_at hl 2 rfl) ?_
  refine lv_bipush (v := nI 10) X.x X.b d_Cm_takeTurn_6 (by decide) ?_
  refine lv_irem X.x X.b d_Cm_takeTurn_8 (by decide) ?_
  refine lv_topi (fun x8 ex8 => ?_)
  refine lv_istore_n (lv' := [(3, .int x8), (2, .int x3), (0, .ref (eA E (cB k))), (1, .int tn)]) X.x X.b d_Cm_takeTurn_9 rfl hl (by decide) rfl (fun ls hl => ?_)
  refine lv_aload_n X.x X.b d_Cm_takeTurn_10 rfl (lv_at hl 2 rfl) ?_
  refine lv_iload_n X.x X.b d_Cm_takeTurn_11 rfl (lv_at hl 1 rfl) ?_
  refine q_cvi X (c_Cm_hasWalker l E k hk S ρ (by rw [hρ]) hwf x3) hW (q_recv X hW (ds_cm hk) rfl) ok_Cm_hasWalker mw_313 ⟨by decide, by decide⟩ (As := [.int x3]) rfl rfl (Nat.le_of_ble_eq_true rfl) (lv := [(3, .int x8), (2, .int x3), (0, .ref (eA E (cB k))), (1, .int tn)]) hl ⟨Nat.le_refl 0, Nat.le_refl 0⟩ d_Cm_takeTurn_12 (fun H locs hW => ?_)
  refine lv_if_eq (tgt := 40) X.x X.b d_Cm_takeTurn_15 (by decide) (fun c15 => ?_) (fun c15 => ?_)
  · have c15 := b2i_e c15
    exact q_vret X hW (by unfold listS; rw [← ex8, ← ex3, if_neg (fun z => c15 z.1), ← hρ, qr_self]) d_Cm_takeTurn_40
  · have c15 := b2i_n c15
    obtain ⟨w15, hw15, rfl⟩ := isW_n hwf c15
    refine lv_aload_n X.x X.b d_Cm_takeTurn_18 rfl (lv_at hl 2 rfl) ?_
    refine lv_iload_n X.x X.b d_Cm_takeTurn_19 rfl (lv_at hl 0 rfl) ?_
    refine q_cvi X (c_Cm_hasThing l E k hk S ρ (by rw [hρ]) hwf x8) hW (q_recv X hW (ds_cm hk) rfl) ok_Cm_hasThing mw_314 ⟨by decide, by decide⟩ (As := [.int x8]) rfl rfl (Nat.le_of_ble_eq_true rfl) (lv := [(3, .int x8), (2, .int (nI w15)), (0, .ref (eA E (cB k))), (1, .int tn)]) hl ⟨Nat.le_refl 0, Nat.le_refl 0⟩ d_Cm_takeTurn_20 (fun H locs hW => ?_)
    refine lv_if_eq (tgt := 40) X.x X.b d_Cm_takeTurn_23 (by decide) (fun c23 => ?_) (fun c23 => ?_)
    · have c23 := b2i_e c23
      exact q_vret X hW (by unfold listS; rw [← ex8, ← ex3, if_neg (fun z => c23 z.2), ← hρ, qr_self]) d_Cm_takeTurn_40
    · have c23 := b2i_n c23
      obtain ⟨t23, ht23, rfl⟩ := isT_n hwf c23
      refine lv_aload_n X.x X.b d_Cm_takeTurn_26 rfl (lv_at hl 2 rfl) ?_
      refine q_getr X hW qj0 rfl _ (ds_cm hk) 2 (by decide) mw_104 rfl (c1 := cB k + 3) rfl d_Cm_takeTurn_27 ?_
      refine lv_iload_n X.x X.b d_Cm_takeTurn_30 rfl (lv_at hl 1 rfl) ?_
      refine g_wk hk X hW (show w15 < 6 by omega) d_Cm_takeTurn_31 ?_
      refine lv_iconst (v := nI 3) X.x X.b d_Cm_takeTurn_32 (by decide) ?_
      refine lv_dup2_11 X.x X.b d_Cm_takeTurn_33 rfl rfl ?_
      refine g_ald X hW (ds_w (w := w15) hk (by omega)) (q_in (by omega) (by decide)) (p0 := 44 + 6 * w15 + 3) (q_tn (by omega) (by omega)) (v := ρ (44 + 6 * w15 + 3)) (by rw [hρ]) d_Cm_takeTurn_34 ?_
      refine lv_iconst (v := nI 1) X.x X.b d_Cm_takeTurn_35 (by decide) ?_
      refine lv_iload_n X.x X.b d_Cm_takeTurn_36 rfl (lv_at hl 0 rfl) ?_
      refine lv_ishl X.x X.b d_Cm_takeTurn_37 ?_
      refine lv_topi (fun x37 ex37 => ?_)
      refine lv_ixor X.x X.b d_Cm_takeTurn_38 ?_
      refine lv_topi (fun x38 ex38 => ?_)
      refine g_ast X hW (ds_w (w := w15) hk (by omega)) (q_in (by omega) (by decide)) (p0 := 44 + 6 * w15 + 3) (q_tn (by omega) (by omega)) (ρ := ρ) (by rw [hρ]) d_Cm_takeTurn_39 (fun H locs hW => ?_)
      obtain ⟨r39, er39⟩ : ∃ z, z = upd ρ (44 + 6 * w15 + 3) x38 := ⟨_, rfl⟩
      rw [← er39] at hW
      exact q_vret X hW (by rw [er39]; unfold listS; rw [← ex8, ← ex3, if_pos ⟨(isW_i hwf (by omega)).mpr hw15, (isT_i hwf (by omega)).mpr ht23⟩, nI_clamp (by omega), nI_clamp (by omega)]; unfold turnS; rw [← tog_eq (by omega), ex38, ex37]) d_Cm_takeTurn_40
set_option maxHeartbeats 1000000 in
set_option maxRecDepth 20000 in
theorem c_Cm_arriveAt (l : Launch) (E : QE) (k : Nat) (hk : k < 3) (S : QM) (ρ : Nat → Int32) (hρ : S k = ρ) (hwf : WF ρ) (w t : Nat) (hw : w < nW ρ) (ht : t < nT ρ) : qCV E l y_Cm_arriveAt prog_2_method_13_code 5 2 [.ref (eA E (cB k)), .ref (eA E (cB k + 13 + w)), .ref (eA E (cB k + 5 + t)), .int (nI t)] S (qr S k (arrS ρ w t)) := by
  refine qCV_of (by decide) (Nat.le_of_ble_eq_true rfl) (fun p e s m below meth c ls X hW hl => ?_)
  have hl : lv_has ls 5 [(0, .ref (eA E (cB k))), (1, .ref (eA E (cB k + 13 + w))), (2, .ref (eA E (cB k + 5 + t))), (3, .int (nI t))] := hl
  have htl := hwf.tl
  have hwl := hwf.wl
  have hdl := hwf.dl
  refine lv_aload_n X.x X.b d_Cm_arriveAt_0 rfl (lv_at hl 1 rfl) ?_
  refine lv_iconst (v := nI 4) X.x X.b d_Cm_arriveAt_1 (by decide) ?_
  refine lv_aload_n X.x X.b d_Cm_arriveAt_2 rfl (lv_at hl 1 rfl) ?_
  refine lv_iconst (v := nI 4) X.x X.b d_Cm_arriveAt_3 (by decide) ?_
  refine g_ald X hW (ds_w (w := w) hk (by omega)) (q_in (by omega) (by decide)) (p0 := 44 + 6 * w + 4) (q_tn (by omega) (by omega)) (v := ρ (44 + 6 * w + 4)) (by rw [hρ]) d_Cm_arriveAt_4 ?_
  refine lv_iconst (v := nI 1) X.x X.b d_Cm_arriveAt_5 (by decide) ?_
  refine lv_iadd X.x X.b d_Cm_arriveAt_6 ?_
  refine lv_sipush (v := nI 9999) X.x X.b d_Cm_arriveAt_7 (by decide) ?_
  refine va_mmin X.x X.b (X.ml.trans hl.1.symm) X.ow (X.ts _ mw_323) (X.ts _ (qTB_in (i := 324) (by decide +kernel) rfl)) (X.ts _ (qTB_in (i := 73) (by decide +kernel) rfl)) (X.ts _ (qTB_in (i := 325) (by decide +kernel) rfl)) (by decide) (Nat.le_of_ble_eq_true rfl) (Nat.le_refl 0) (Nat.le_refl 0) d_Cm_arriveAt_10 ?_
  refine lv_topi (fun x10 ex10 => ?_)
  refine g_ast X hW (ds_w (w := w) hk (by omega)) (q_in (by omega) (by decide)) (p0 := 44 + 6 * w + 4) (q_tn (by omega) (by omega)) (ρ := ρ) (by rw [hρ]) d_Cm_arriveAt_13 (fun H locs hW => ?_)
  obtain ⟨r13, er13⟩ : ∃ z, z = upd ρ (44 + 6 * w + 4) x10 := ⟨_, rfl⟩
  rw [← er13] at hW
  refine lv_aload_n X.x X.b d_Cm_arriveAt_14 rfl (lv_at hl 2 rfl) ?_
  refine lv_iconst (v := nI 2) X.x X.b d_Cm_arriveAt_15 (by decide) ?_
  refine lv_aload_n X.x X.b d_Cm_arriveAt_16 rfl (lv_at hl 2 rfl) ?_
  refine lv_iconst (v := nI 2) X.x X.b d_Cm_arriveAt_17 (by decide) ?_
  refine g_ald X hW (ds_t (t := t) hk (by omega)) (q_in (by omega) (by decide)) (p0 := 20 + 3 * t + 2) (q_tn (by omega) (by omega)) (v := r13 (20 + 3 * t + 2)) (by rw [qr_at]) d_Cm_arriveAt_18 ?_
  refine lv_iconst (v := nI 1) X.x X.b d_Cm_arriveAt_19 (by decide) ?_
  refine lv_iadd X.x X.b d_Cm_arriveAt_20 ?_
  refine lv_sipush (v := nI 9999) X.x X.b d_Cm_arriveAt_21 (by decide) ?_
  refine va_mmin X.x X.b (X.ml.trans hl.1.symm) X.ow (X.ts _ mw_323) (X.ts _ (qTB_in (i := 324) (by decide +kernel) rfl)) (X.ts _ (qTB_in (i := 73) (by decide +kernel) rfl)) (X.ts _ (qTB_in (i := 325) (by decide +kernel) rfl)) (by decide) (Nat.le_of_ble_eq_true rfl) (Nat.le_refl 0) (Nat.le_refl 0) d_Cm_arriveAt_24 ?_
  refine lv_topi (fun x24 ex24 => ?_)
  refine g_ast X hW (ds_t (t := t) hk (by omega)) (q_in (by omega) (by decide)) (p0 := 20 + 3 * t + 2) (q_tn (by omega) (by omega)) (ρ := r13) (by rw [qr_at]) d_Cm_arriveAt_27 (fun H locs hW => ?_)
  obtain ⟨r27, er27⟩ : ∃ z, z = upd r13 (20 + 3 * t + 2) x24 := ⟨_, rfl⟩
  rw [← er27] at hW
  rw [qr_qr] at hW
  refine lv_aload_n X.x X.b d_Cm_arriveAt_28 rfl (lv_at hl 1 rfl) ?_
  refine lv_iconst (v := nI 3) X.x X.b d_Cm_arriveAt_29 (by decide) ?_
  refine g_ald X hW (ds_w (w := w) hk (by omega)) (q_in (by omega) (by decide)) (p0 := 44 + 6 * w + 3) (q_tn (by omega) (by omega)) (v := r27 (44 + 6 * w + 3)) (by rw [qr_at]) d_Cm_arriveAt_30 ?_
  refine lv_iload_n X.x X.b d_Cm_arriveAt_31 rfl (lv_at hl 3 rfl) ?_
  refine lv_ishr X.x X.b d_Cm_arriveAt_32 ?_
  refine lv_iconst (v := nI 1) X.x X.b d_Cm_arriveAt_33 (by decide) ?_
  refine lv_iand X.x X.b d_Cm_arriveAt_34 ?_
  refine lv_iconst (v := nI 1) X.x X.b d_Cm_arriveAt_35 (by decide) ?_
  refine lv_icmp_ne (tgt := 43) X.x X.b d_Cm_arriveAt_36 (by decide) (fun c36 => ?_) (fun c36 => ?_)
  · refine lv_iconst (v := nI 0) X.x X.b d_Cm_arriveAt_43 (by decide) ?_
    refine lv_istore (lv' := [(4, .int (nI 0)), (0, .ref (eA E (cB k))), (1, .ref (eA E (cB k + 13 + w))), (2, .ref (eA E (cB k + 5 + t))), (3, .int (nI t))]) X.x X.b d_Cm_arriveAt_44 hl (by decide) rfl (fun ls hl => ?_)
    refine lv_aload_n X.x X.b d_Cm_arriveAt_46 rfl (lv_at hl 3 rfl) ?_
    refine lv_iconst (v := nI 0) X.x X.b d_Cm_arriveAt_47 (by decide) ?_
    refine g_ald X hW (ds_t (t := t) hk (by omega)) (q_in (by omega) (by decide)) (p0 := 20 + 3 * t) (q_tn (by omega) (by omega)) (v := r27 (20 + 3 * t)) (by rw [qr_at]) d_Cm_arriveAt_48 ?_
    refine lv_iload X.x X.b d_Cm_arriveAt_49 (lv_at hl 0 rfl) ?_
    refine q_csi X (c_Kd_touches l E (qr S k r27) (r27 (20 + 3 * t)) (nI 0) (by first | exact Or.inl rfl | exact Or.inr rfl)) hW ok_Kd_touches mw_333 ⟨by decide, by decide⟩ (As := [.int (r27 (20 + 3 * t)), .int (nI 0)]) rfl rfl (Nat.le_of_ble_eq_true rfl) (lv := [(4, .int (nI 0)), (0, .ref (eA E (cB k))), (1, .ref (eA E (cB k + 13 + w))), (2, .ref (eA E (cB k + 5 + t))), (3, .int (nI t))]) hl ⟨Nat.le_refl 0, Nat.le_refl 0⟩ d_Cm_arriveAt_51 (fun H locs hW => ?_)
    refine lv_if_eq (tgt := 69) X.x X.b d_Cm_arriveAt_54 (by decide) (fun c54 => ?_) (fun c54 => ?_)
    · refine lv_aload_n X.x X.b d_Cm_arriveAt_69 rfl (lv_at hl 2 rfl) ?_
      refine lv_iconst (v := nI 3) X.x X.b d_Cm_arriveAt_70 (by decide) ?_
      refine lv_dup2_11 X.x X.b d_Cm_arriveAt_71 rfl rfl ?_
      refine g_ald X hW (ds_w (w := w) hk (by omega)) (q_in (by omega) (by decide)) (p0 := 44 + 6 * w + 3) (q_tn (by omega) (by omega)) (v := r27 (44 + 6 * w + 3)) (by rw [qr_at]) d_Cm_arriveAt_72 ?_
      refine lv_iconst (v := nI 1) X.x X.b d_Cm_arriveAt_73 (by decide) ?_
      refine lv_iload_n X.x X.b d_Cm_arriveAt_74 rfl (lv_at hl 4 rfl) ?_
      refine lv_ishl X.x X.b d_Cm_arriveAt_75 ?_
      refine lv_iconst (v := (-1)) X.x X.b d_Cm_arriveAt_76 (by decide) ?_
      refine lv_ixor X.x X.b d_Cm_arriveAt_77 ?_
      refine lv_iand X.x X.b d_Cm_arriveAt_78 ?_
      refine g_ast X hW (ds_w (w := w) hk (by omega)) (q_in (by omega) (by decide)) (p0 := 44 + 6 * w + 3) (q_tn (by omega) (by omega)) (ρ := r27) (by rw [qr_at]) d_Cm_arriveAt_79 (fun H locs hW => ?_)
      obtain ⟨r79, er79⟩ : ∃ z, z = upd r27 (44 + 6 * w + 3) ((r27 (44 + 6 * w + 3)) &&& (((nI 1) <<< ((nI t) &&& 31)) ^^^ (-1))) := ⟨_, rfl⟩
      rw [← er79] at hW
      rw [qr_qr] at hW
      exact q_vret X hW (by have e3 : r27 (44 + 6 * w + 3) = ρ (44 + 6 * w + 3) := by { rw [er27, upN (by omega), er13, upN (by omega)] }; have e0 : r27 (20 + 3 * t) = ρ (20 + 3 * t) := by { rw [er27, upN (by omega), er13, upN (by omega)] }; have e2 : r13 (20 + 3 * t + 2) = ρ (20 + 3 * t + 2) := by { rw [er13, upN (by omega)] }; rw [e3] at c36; rw [e0] at c54; have eb : b2i (care (ρ (44 + 6 * w + 3)) t) = nI 0 := b2i_f c36; rw [er79, e3]; unfold arrS puts; rw [eb, if_neg (fun z => z c54)]; unfold inc9 imn; rw [← ex10, ← e2, ← ex24, er27, er13]) d_Cm_arriveAt_80
    · refine lv_aload_n X.x X.b d_Cm_arriveAt_57 rfl (lv_at hl 2 rfl) ?_
      refine lv_iconst (v := nI 3) X.x X.b d_Cm_arriveAt_58 (by decide) ?_
      refine lv_dup2_11 X.x X.b d_Cm_arriveAt_59 rfl rfl ?_
      refine g_ald X hW (ds_w (w := w) hk (by omega)) (q_in (by omega) (by decide)) (p0 := 44 + 6 * w + 3) (q_tn (by omega) (by omega)) (v := r27 (44 + 6 * w + 3)) (by rw [qr_at]) d_Cm_arriveAt_60 ?_
      refine lv_iconst (v := nI 1) X.x X.b d_Cm_arriveAt_61 (by decide) ?_
      refine lv_iload_n X.x X.b d_Cm_arriveAt_62 rfl (lv_at hl 4 rfl) ?_
      refine lv_ishl X.x X.b d_Cm_arriveAt_63 ?_
      refine lv_ior X.x X.b d_Cm_arriveAt_64 ?_
      refine g_ast X hW (ds_w (w := w) hk (by omega)) (q_in (by omega) (by decide)) (p0 := 44 + 6 * w + 3) (q_tn (by omega) (by omega)) (ρ := r27) (by rw [qr_at]) d_Cm_arriveAt_65 (fun H locs hW => ?_)
      obtain ⟨r65, er65⟩ : ∃ z, z = upd r27 (44 + 6 * w + 3) ((r27 (44 + 6 * w + 3)) ||| ((nI 1) <<< ((nI t) &&& 31))) := ⟨_, rfl⟩
      rw [← er65] at hW
      rw [qr_qr] at hW
      refine lv_goto (tgt := 80) X.x X.b d_Cm_arriveAt_66 (by decide) ?_
      exact q_vret X hW (by have e3 : r27 (44 + 6 * w + 3) = ρ (44 + 6 * w + 3) := by { rw [er27, upN (by omega), er13, upN (by omega)] }; have e0 : r27 (20 + 3 * t) = ρ (20 + 3 * t) := by { rw [er27, upN (by omega), er13, upN (by omega)] }; have e2 : r13 (20 + 3 * t + 2) = ρ (20 + 3 * t + 2) := by { rw [er13, upN (by omega)] }; rw [e3] at c36; rw [e0] at c54; have eb : b2i (care (ρ (44 + 6 * w + 3)) t) = nI 0 := b2i_f c36; rw [er65, e3]; unfold arrS puts; rw [eb, if_pos c54]; unfold inc9 imn; rw [← ex10, ← e2, ← ex24, er27, er13]) d_Cm_arriveAt_80
  · refine lv_iconst (v := nI 1) X.x X.b d_Cm_arriveAt_39 (by decide) ?_
    refine lv_goto (tgt := 44) X.x X.b d_Cm_arriveAt_40 (by decide) ?_
    refine lv_istore (lv' := [(4, .int (nI 1)), (0, .ref (eA E (cB k))), (1, .ref (eA E (cB k + 13 + w))), (2, .ref (eA E (cB k + 5 + t))), (3, .int (nI t))]) X.x X.b d_Cm_arriveAt_44 hl (by decide) rfl (fun ls hl => ?_)
    refine lv_aload_n X.x X.b d_Cm_arriveAt_46 rfl (lv_at hl 3 rfl) ?_
    refine lv_iconst (v := nI 0) X.x X.b d_Cm_arriveAt_47 (by decide) ?_
    refine g_ald X hW (ds_t (t := t) hk (by omega)) (q_in (by omega) (by decide)) (p0 := 20 + 3 * t) (q_tn (by omega) (by omega)) (v := r27 (20 + 3 * t)) (by rw [qr_at]) d_Cm_arriveAt_48 ?_
    refine lv_iload X.x X.b d_Cm_arriveAt_49 (lv_at hl 0 rfl) ?_
    refine q_csi X (c_Kd_touches l E (qr S k r27) (r27 (20 + 3 * t)) (nI 1) (by first | exact Or.inl rfl | exact Or.inr rfl)) hW ok_Kd_touches mw_333 ⟨by decide, by decide⟩ (As := [.int (r27 (20 + 3 * t)), .int (nI 1)]) rfl rfl (Nat.le_of_ble_eq_true rfl) (lv := [(4, .int (nI 1)), (0, .ref (eA E (cB k))), (1, .ref (eA E (cB k + 13 + w))), (2, .ref (eA E (cB k + 5 + t))), (3, .int (nI t))]) hl ⟨Nat.le_refl 0, Nat.le_refl 0⟩ d_Cm_arriveAt_51 (fun H locs hW => ?_)
    refine lv_if_eq (tgt := 69) X.x X.b d_Cm_arriveAt_54 (by decide) (fun c54 => ?_) (fun c54 => ?_)
    · refine lv_aload_n X.x X.b d_Cm_arriveAt_69 rfl (lv_at hl 2 rfl) ?_
      refine lv_iconst (v := nI 3) X.x X.b d_Cm_arriveAt_70 (by decide) ?_
      refine lv_dup2_11 X.x X.b d_Cm_arriveAt_71 rfl rfl ?_
      refine g_ald X hW (ds_w (w := w) hk (by omega)) (q_in (by omega) (by decide)) (p0 := 44 + 6 * w + 3) (q_tn (by omega) (by omega)) (v := r27 (44 + 6 * w + 3)) (by rw [qr_at]) d_Cm_arriveAt_72 ?_
      refine lv_iconst (v := nI 1) X.x X.b d_Cm_arriveAt_73 (by decide) ?_
      refine lv_iload_n X.x X.b d_Cm_arriveAt_74 rfl (lv_at hl 4 rfl) ?_
      refine lv_ishl X.x X.b d_Cm_arriveAt_75 ?_
      refine lv_iconst (v := (-1)) X.x X.b d_Cm_arriveAt_76 (by decide) ?_
      refine lv_ixor X.x X.b d_Cm_arriveAt_77 ?_
      refine lv_iand X.x X.b d_Cm_arriveAt_78 ?_
      refine g_ast X hW (ds_w (w := w) hk (by omega)) (q_in (by omega) (by decide)) (p0 := 44 + 6 * w + 3) (q_tn (by omega) (by omega)) (ρ := r27) (by rw [qr_at]) d_Cm_arriveAt_79 (fun H locs hW => ?_)
      obtain ⟨r79, er79⟩ : ∃ z, z = upd r27 (44 + 6 * w + 3) ((r27 (44 + 6 * w + 3)) &&& (((nI 1) <<< ((nI t) &&& 31)) ^^^ (-1))) := ⟨_, rfl⟩
      rw [← er79] at hW
      rw [qr_qr] at hW
      exact q_vret X hW (by have e3 : r27 (44 + 6 * w + 3) = ρ (44 + 6 * w + 3) := by { rw [er27, upN (by omega), er13, upN (by omega)] }; have e0 : r27 (20 + 3 * t) = ρ (20 + 3 * t) := by { rw [er27, upN (by omega), er13, upN (by omega)] }; have e2 : r13 (20 + 3 * t + 2) = ρ (20 + 3 * t + 2) := by { rw [er13, upN (by omega)] }; rw [e3] at c36; rw [e0] at c54; have eb : b2i (care (ρ (44 + 6 * w + 3)) t) = nI 1 := b2i_t c36; rw [er79, e3]; unfold arrS puts; rw [eb, if_neg (fun z => z c54)]; unfold inc9 imn; rw [← ex10, ← e2, ← ex24, er27, er13]) d_Cm_arriveAt_80
    · refine lv_aload_n X.x X.b d_Cm_arriveAt_57 rfl (lv_at hl 2 rfl) ?_
      refine lv_iconst (v := nI 3) X.x X.b d_Cm_arriveAt_58 (by decide) ?_
      refine lv_dup2_11 X.x X.b d_Cm_arriveAt_59 rfl rfl ?_
      refine g_ald X hW (ds_w (w := w) hk (by omega)) (q_in (by omega) (by decide)) (p0 := 44 + 6 * w + 3) (q_tn (by omega) (by omega)) (v := r27 (44 + 6 * w + 3)) (by rw [qr_at]) d_Cm_arriveAt_60 ?_
      refine lv_iconst (v := nI 1) X.x X.b d_Cm_arriveAt_61 (by decide) ?_
      refine lv_iload_n X.x X.b d_Cm_arriveAt_62 rfl (lv_at hl 4 rfl) ?_
      refine lv_ishl X.x X.b d_Cm_arriveAt_63 ?_
      refine lv_ior X.x X.b d_Cm_arriveAt_64 ?_
      refine g_ast X hW (ds_w (w := w) hk (by omega)) (q_in (by omega) (by decide)) (p0 := 44 + 6 * w + 3) (q_tn (by omega) (by omega)) (ρ := r27) (by rw [qr_at]) d_Cm_arriveAt_65 (fun H locs hW => ?_)
      obtain ⟨r65, er65⟩ : ∃ z, z = upd r27 (44 + 6 * w + 3) ((r27 (44 + 6 * w + 3)) ||| ((nI 1) <<< ((nI t) &&& 31))) := ⟨_, rfl⟩
      rw [← er65] at hW
      rw [qr_qr] at hW
      refine lv_goto (tgt := 80) X.x X.b d_Cm_arriveAt_66 (by decide) ?_
      exact q_vret X hW (by have e3 : r27 (44 + 6 * w + 3) = ρ (44 + 6 * w + 3) := by { rw [er27, upN (by omega), er13, upN (by omega)] }; have e0 : r27 (20 + 3 * t) = ρ (20 + 3 * t) := by { rw [er27, upN (by omega), er13, upN (by omega)] }; have e2 : r13 (20 + 3 * t + 2) = ρ (20 + 3 * t + 2) := by { rw [er13, upN (by omega)] }; rw [e3] at c36; rw [e0] at c54; have eb : b2i (care (ρ (44 + 6 * w + 3)) t) = nI 1 := b2i_t c36; rw [er65, e3]; unfold arrS puts; rw [eb, if_pos c54]; unfold inc9 imn; rw [← ex10, ← e2, ← ex24, er27, er13]) d_Cm_arriveAt_80
set_option maxHeartbeats 1000000 in
set_option maxRecDepth 20000 in
theorem c_Cm_walk (l : Launch) (E : QE) (k : Nat) (hk : k < 3) (S : QM) (ρ : Nat → Int32) (hρ : S k = ρ) (hwf : WF ρ) (w t : Nat) (hw : w < nW ρ) (ht : t < nT ρ) (b : Prop) [Decidable b] : qCV E l y_Cm_walk prog_2_method_12_code 5 3 [.ref (eA E (cB k)), .ref (eA E (cB k + 13 + w)), .int (nI t), .int (b2i (b))] S (qr S k (walkS ρ w t b)) := by
  refine qCV_of (by decide) (Nat.le_of_ble_eq_true rfl) (fun p e s m below meth c ls X hW hl => ?_)
  have hl : lv_has ls 5 [(0, .ref (eA E (cB k))), (1, .ref (eA E (cB k + 13 + w))), (2, .int (nI t)), (3, .int (b2i (b)))] := hl
  have htl := hwf.tl
  have hwl := hwf.wl
  have hdl := hwf.dl
  refine lv_iload_n X.x X.b d_Cm_walk_0 rfl (lv_at hl 3 rfl) ?_
  refine lv_if_eq (tgt := 42) X.x X.b d_Cm_walk_1 (by decide) (fun c1 => ?_) (fun c1 => ?_)
  · have c1 := b2i_e c1
    refine lv_aload_n X.x X.b d_Cm_walk_42 rfl (lv_at hl 1 rfl) ?_
    refine lv_iconst (v := nI 0) X.x X.b d_Cm_walk_43 (by decide) ?_
    refine lv_aload_n X.x X.b d_Cm_walk_44 rfl (lv_at hl 1 rfl) ?_
    refine lv_iconst (v := nI 0) X.x X.b d_Cm_walk_45 (by decide) ?_
    refine g_ald X hW (ds_w (w := w) hk (by omega)) (q_in (by omega) (by decide)) (p0 := 44 + 6 * w) (q_tn (by omega) (by omega)) (v := ρ (44 + 6 * w)) (by rw [hρ]) d_Cm_walk_46 ?_
    refine lv_iconst (v := nI 1) X.x X.b d_Cm_walk_47 (by decide) ?_
    refine lv_iadd X.x X.b d_Cm_walk_48 ?_
    refine lv_bipush (v := nI 16) X.x X.b d_Cm_walk_49 (by decide) ?_
    refine lv_irem X.x X.b d_Cm_walk_51 (by decide) ?_
    refine g_ast X hW (ds_w (w := w) hk (by omega)) (q_in (by omega) (by decide)) (p0 := 44 + 6 * w) (q_tn (by omega) (by omega)) (ρ := ρ) (by rw [hρ]) d_Cm_walk_52 (fun H locs hW => ?_)
    obtain ⟨r52, er52⟩ : ∃ z, z = upd ρ (44 + 6 * w) (((ρ (44 + 6 * w)) + (nI 1)) - ((ρ (44 + 6 * w)) + (nI 1)) / (nI 16) * (nI 16)) := ⟨_, rfl⟩
    rw [← er52] at hW
    refine lv_aload_n X.x X.b d_Cm_walk_53 rfl (lv_at hl 1 rfl) ?_
    refine lv_iconst (v := nI 5) X.x X.b d_Cm_walk_54 (by decide) ?_
    refine lv_aload_n X.x X.b d_Cm_walk_55 rfl (lv_at hl 1 rfl) ?_
    refine lv_iconst (v := nI 5) X.x X.b d_Cm_walk_56 (by decide) ?_
    refine g_ald X hW (ds_w (w := w) hk (by omega)) (q_in (by omega) (by decide)) (p0 := 44 + 6 * w + 5) (q_tn (by omega) (by omega)) (v := r52 (44 + 6 * w + 5)) (by rw [qr_at]) d_Cm_walk_57 ?_
    refine lv_iconst (v := nI 1) X.x X.b d_Cm_walk_58 (by decide) ?_
    refine lv_iadd X.x X.b d_Cm_walk_59 ?_
    refine lv_sipush (v := nI 9999) X.x X.b d_Cm_walk_60 (by decide) ?_
    refine va_mmin X.x X.b (X.ml.trans hl.1.symm) X.ow (X.ts _ mw_323) (X.ts _ (qTB_in (i := 324) (by decide +kernel) rfl)) (X.ts _ (qTB_in (i := 73) (by decide +kernel) rfl)) (X.ts _ (qTB_in (i := 325) (by decide +kernel) rfl)) (by decide) (Nat.le_of_ble_eq_true rfl) (Nat.le_refl 0) (Nat.le_refl 0) d_Cm_walk_63 ?_
    refine lv_topi (fun x63 ex63 => ?_)
    refine g_ast X hW (ds_w (w := w) hk (by omega)) (q_in (by omega) (by decide)) (p0 := 44 + 6 * w + 5) (q_tn (by omega) (by omega)) (ρ := r52) (by rw [qr_at]) d_Cm_walk_66 (fun H locs hW => ?_)
    obtain ⟨r66, er66⟩ : ∃ z, z = upd r52 (44 + 6 * w + 5) x63 := ⟨_, rfl⟩
    rw [← er66] at hW
    rw [qr_qr] at hW
    have hg : goS ρ w t b = r66 := by have e5 : r52 (44 + 6 * w + 5) = ρ (44 + 6 * w + 5) := by { rw [er52, upN (by omega)] }; unfold goS; rw [if_neg c1, er66, er52]; unfold inc9 imn; rw [← e5, ← ex63]
    have hs := goS_same hwf hw ht b
    rw [hg] at hs
    have hto : r66 (20 + 3 * t + 1) = ρ (20 + 3 * t + 1) := by rw [er66, upN (by omega), er52, upN (by omega)]
    refine lv_aload_n X.x X.b d_Cm_walk_67 rfl (lv_at hl 1 rfl) ?_
    refine lv_iconst (v := nI 0) X.x X.b d_Cm_walk_68 (by decide) ?_
    refine g_ald X hW (ds_w (w := w) hk (by omega)) (q_in (by omega) (by decide)) (p0 := 44 + 6 * w) (q_tn (by omega) (by omega)) (v := r66 (44 + 6 * w)) (by rw [qr_at]) d_Cm_walk_69 ?_
    refine lv_aload_n X.x X.b d_Cm_walk_70 rfl (lv_at hl 0 rfl) ?_
    refine q_getr X hW qj0 rfl _ (ds_cm hk) 1 (by decide) mw_102 rfl (c1 := cB k + 2) rfl d_Cm_walk_71 ?_
    refine lv_iload_n X.x X.b d_Cm_walk_74 rfl (lv_at hl 2 rfl) ?_
    refine g_th hk X hW (show t < 8 by omega) d_Cm_walk_75 ?_
    refine lv_iconst (v := nI 1) X.x X.b d_Cm_walk_76 (by decide) ?_
    refine g_ald X hW (ds_t (t := t) hk (by omega)) (q_in (by omega) (by decide)) (p0 := 20 + 3 * t + 1) (q_tn (by omega) (by omega)) (v := r66 (20 + 3 * t + 1)) (by rw [qr_at]) d_Cm_walk_77 ?_
    refine lv_icmp_ne (tgt := 93) X.x X.b d_Cm_walk_78 (by decide) (fun c78 => ?_) (fun c78 => ?_)
    · exact q_vret X hW (by rw [hto] at c78; unfold walkS; rw [hg, if_neg c78]) d_Cm_walk_93
    · refine lv_aload_n X.x X.b d_Cm_walk_81 rfl (lv_at hl 0 rfl) ?_
      refine lv_aload_n X.x X.b d_Cm_walk_82 rfl (lv_at hl 1 rfl) ?_
      refine lv_aload_n X.x X.b d_Cm_walk_83 rfl (lv_at hl 0 rfl) ?_
      refine q_getr X hW qj0 rfl _ (ds_cm hk) 1 (by decide) mw_102 rfl (c1 := cB k + 2) rfl d_Cm_walk_84 ?_
      refine lv_iload_n X.x X.b d_Cm_walk_87 rfl (lv_at hl 2 rfl) ?_
      refine g_th hk X hW (show t < 8 by omega) d_Cm_walk_88 ?_
      refine lv_iload_n X.x X.b d_Cm_walk_89 rfl (lv_at hl 2 rfl) ?_
      refine q_cvv X (c_Cm_arriveAt l E k hk (qr S k r66) r66 (by rw [qr_at]) hs.1 w t (by rw [hs.2.2.1]; exact hw) (by rw [hs.2.1]; exact ht)) hW (q_recv X hW (ds_cm hk) rfl) ok_Cm_arriveAt mw_329 ⟨by decide, by decide⟩ (As := [.ref (eA E (cB k + 13 + w)), .ref (eA E (cB k + 5 + t)), .int (nI t)]) rfl rfl (Nat.le_of_ble_eq_true rfl) (lv := [(0, .ref (eA E (cB k))), (1, .ref (eA E (cB k + 13 + w))), (2, .int (nI t)), (3, .int (b2i (b)))]) hl ⟨Nat.le_refl 0, Nat.le_refl 0⟩ d_Cm_walk_90 (fun H locs hW => ?_)
      have hW : qWH E (qr S k (arrS r66 w t)) s H locs := (by have h := hW; rw [qr_qr] at h; exact h)
      exact q_vret X hW (by rw [hto] at c78; unfold walkS; rw [hg, if_pos c78]) d_Cm_walk_93
  · have c1 := b2i_n c1
    refine lv_aload_n X.x X.b d_Cm_walk_4 rfl (lv_at hl 0 rfl) ?_
    refine q_getr X hW qj0 rfl _ (ds_cm hk) 1 (by decide) mw_102 rfl (c1 := cB k + 2) rfl d_Cm_walk_5 ?_
    refine lv_iload_n X.x X.b d_Cm_walk_8 rfl (lv_at hl 2 rfl) ?_
    refine g_th hk X hW (show t < 8 by omega) d_Cm_walk_9 ?_
    refine lv_iconst (v := nI 1) X.x X.b d_Cm_walk_10 (by decide) ?_
    refine g_ald X hW (ds_t (t := t) hk (by omega)) (q_in (by omega) (by decide)) (p0 := 20 + 3 * t + 1) (q_tn (by omega) (by omega)) (v := ρ (20 + 3 * t + 1)) (by rw [hρ]) d_Cm_walk_11 ?_
    refine lv_aload_n X.x X.b d_Cm_walk_12 rfl (lv_at hl 1 rfl) ?_
    refine lv_iconst (v := nI 0) X.x X.b d_Cm_walk_13 (by decide) ?_
    refine g_ald X hW (ds_w (w := w) hk (by omega)) (q_in (by omega) (by decide)) (p0 := 44 + 6 * w) (q_tn (by omega) (by omega)) (v := ρ (44 + 6 * w)) (by rw [hρ]) d_Cm_walk_14 ?_
    refine lv_isub X.x X.b d_Cm_walk_15 ?_
    refine lv_istore (lv' := [(4, .int ((ρ (20 + 3 * t + 1)) - (ρ (44 + 6 * w)))), (0, .ref (eA E (cB k))), (1, .ref (eA E (cB k + 13 + w))), (2, .int (nI t)), (3, .int (b2i (b)))]) X.x X.b d_Cm_walk_16 hl (by decide) rfl (fun ls hl => ?_)
    refine lv_aload_n X.x X.b d_Cm_walk_18 rfl (lv_at hl 2 rfl) ?_
    refine lv_iconst (v := nI 0) X.x X.b d_Cm_walk_19 (by decide) ?_
    refine lv_dup2_11 X.x X.b d_Cm_walk_20 rfl rfl ?_
    refine g_ald X hW (ds_w (w := w) hk (by omega)) (q_in (by omega) (by decide)) (p0 := 44 + 6 * w) (q_tn (by omega) (by omega)) (v := ρ (44 + 6 * w)) (by rw [hρ]) d_Cm_walk_21 ?_
    refine lv_aload_n X.x X.b d_Cm_walk_22 rfl (lv_at hl 2 rfl) ?_
    refine lv_iconst (v := nI 2) X.x X.b d_Cm_walk_23 (by decide) ?_
    refine g_ald X hW (ds_w (w := w) hk (by omega)) (q_in (by omega) (by decide)) (p0 := 44 + 6 * w + 2) (q_tn (by omega) (by omega)) (v := ρ (44 + 6 * w + 2)) (by rw [hρ]) d_Cm_walk_24 ?_
    refine lv_ineg X.x X.b d_Cm_walk_25 ?_
    refine lv_aload_n X.x X.b d_Cm_walk_26 rfl (lv_at hl 2 rfl) ?_
    refine lv_iconst (v := nI 2) X.x X.b d_Cm_walk_27 (by decide) ?_
    refine g_ald X hW (ds_w (w := w) hk (by omega)) (q_in (by omega) (by decide)) (p0 := 44 + 6 * w + 2) (q_tn (by omega) (by omega)) (v := ρ (44 + 6 * w + 2)) (by rw [hρ]) d_Cm_walk_28 ?_
    refine lv_iload X.x X.b d_Cm_walk_29 (lv_at hl 0 rfl) ?_
    refine va_mmin X.x X.b (X.ml.trans hl.1.symm) X.ow (X.ts _ mw_323) (X.ts _ (qTB_in (i := 324) (by decide +kernel) rfl)) (X.ts _ (qTB_in (i := 73) (by decide +kernel) rfl)) (X.ts _ (qTB_in (i := 325) (by decide +kernel) rfl)) (by decide) (Nat.le_of_ble_eq_true rfl) (Nat.le_refl 0) (Nat.le_refl 0) d_Cm_walk_31 ?_
    refine lv_topi (fun x31 ex31 => ?_)
    refine va_mmax X.x X.b (X.ml.trans hl.1.symm) X.ow (X.ts _ mw_326) (X.ts _ (qTB_in (i := 327) (by decide +kernel) rfl)) (X.ts _ (qTB_in (i := 73) (by decide +kernel) rfl)) (X.ts _ (qTB_in (i := 328) (by decide +kernel) rfl)) (by decide) (Nat.le_of_ble_eq_true rfl) (Nat.le_refl 0) (Nat.le_refl 0) d_Cm_walk_34 ?_
    refine lv_topi (fun x34 ex34 => ?_)
    refine lv_iadd X.x X.b d_Cm_walk_37 ?_
    refine g_ast X hW (ds_w (w := w) hk (by omega)) (q_in (by omega) (by decide)) (p0 := 44 + 6 * w) (q_tn (by omega) (by omega)) (ρ := ρ) (by rw [hρ]) d_Cm_walk_38 (fun H locs hW => ?_)
    obtain ⟨r38, er38⟩ : ∃ z, z = upd ρ (44 + 6 * w) ((ρ (44 + 6 * w)) + x34) := ⟨_, rfl⟩
    rw [← er38] at hW
    refine lv_goto (tgt := 67) X.x X.b d_Cm_walk_39 (by decide) ?_
    have hg : goS ρ w t b = r38 := by unfold goS; rw [if_pos c1, er38, ← stp_row hwf hw ht]; unfold imx imn; rw [← ex31, ← ex34]
    have hs := goS_same hwf hw ht b
    rw [hg] at hs
    have hto : r38 (20 + 3 * t + 1) = ρ (20 + 3 * t + 1) := by rw [er38, upN (by omega)]
    refine lv_aload_n X.x X.b d_Cm_walk_67 rfl (lv_at hl 2 rfl) ?_
    refine lv_iconst (v := nI 0) X.x X.b d_Cm_walk_68 (by decide) ?_
    refine g_ald X hW (ds_w (w := w) hk (by omega)) (q_in (by omega) (by decide)) (p0 := 44 + 6 * w) (q_tn (by omega) (by omega)) (v := r38 (44 + 6 * w)) (by rw [qr_at]) d_Cm_walk_69 ?_
    refine lv_aload_n X.x X.b d_Cm_walk_70 rfl (lv_at hl 1 rfl) ?_
    refine q_getr X hW qj0 rfl _ (ds_cm hk) 1 (by decide) mw_102 rfl (c1 := cB k + 2) rfl d_Cm_walk_71 ?_
    refine lv_iload_n X.x X.b d_Cm_walk_74 rfl (lv_at hl 3 rfl) ?_
    refine g_th hk X hW (show t < 8 by omega) d_Cm_walk_75 ?_
    refine lv_iconst (v := nI 1) X.x X.b d_Cm_walk_76 (by decide) ?_
    refine g_ald X hW (ds_t (t := t) hk (by omega)) (q_in (by omega) (by decide)) (p0 := 20 + 3 * t + 1) (q_tn (by omega) (by omega)) (v := r38 (20 + 3 * t + 1)) (by rw [qr_at]) d_Cm_walk_77 ?_
    refine lv_icmp_ne (tgt := 93) X.x X.b d_Cm_walk_78 (by decide) (fun c78 => ?_) (fun c78 => ?_)
    · exact q_vret X hW (by rw [hto] at c78; unfold walkS; rw [hg, if_neg c78]) d_Cm_walk_93
    · refine lv_aload_n X.x X.b d_Cm_walk_81 rfl (lv_at hl 1 rfl) ?_
      refine lv_aload_n X.x X.b d_Cm_walk_82 rfl (lv_at hl 2 rfl) ?_
      refine lv_aload_n X.x X.b d_Cm_walk_83 rfl (lv_at hl 1 rfl) ?_
      refine q_getr X hW qj0 rfl _ (ds_cm hk) 1 (by decide) mw_102 rfl (c1 := cB k + 2) rfl d_Cm_walk_84 ?_
      refine lv_iload_n X.x X.b d_Cm_walk_87 rfl (lv_at hl 3 rfl) ?_
      refine g_th hk X hW (show t < 8 by omega) d_Cm_walk_88 ?_
      refine lv_iload_n X.x X.b d_Cm_walk_89 rfl (lv_at hl 3 rfl) ?_
      refine q_cvv X (c_Cm_arriveAt l E k hk (qr S k r38) r38 (by rw [qr_at]) hs.1 w t (by rw [hs.2.2.1]; exact hw) (by rw [hs.2.1]; exact ht)) hW (q_recv X hW (ds_cm hk) rfl) ok_Cm_arriveAt mw_329 ⟨by decide, by decide⟩ (As := [.ref (eA E (cB k + 13 + w)), .ref (eA E (cB k + 5 + t)), .int (nI t)]) rfl rfl (Nat.le_of_ble_eq_true rfl) (lv := [(4, .int ((ρ (20 + 3 * t + 1)) - (ρ (44 + 6 * w)))), (0, .ref (eA E (cB k))), (1, .ref (eA E (cB k + 13 + w))), (2, .int (nI t)), (3, .int (b2i (b)))]) hl ⟨Nat.le_refl 0, Nat.le_refl 0⟩ d_Cm_walk_90 (fun H locs hW => ?_)
      have hW : qWH E (qr S k (arrS r38 w t)) s H locs := (by have h := hW; rw [qr_qr] at h; exact h)
      exact q_vret X hW (by rw [hto] at c78; unfold walkS; rw [hg, if_pos c78]) d_Cm_walk_93
