theorem d_Ja_fill_0 : decode prog_14_method_103_code 0 = .ok (.iconst 0, 1) := by decide +kernel
theorem d_Ja_fill_1 : decode prog_14_method_103_code 1 = .ok (.istore_n 2, 1) := by decide +kernel
theorem d_Ja_fill_2 : decode prog_14_method_103_code 2 = .ok (.aload_n 0, 1) := by decide +kernel
theorem d_Ja_fill_3 : decode prog_14_method_103_code 3 = .ok (.arraylength, 1) := by decide +kernel
theorem d_Ja_fill_4 : decode prog_14_method_103_code 4 = .ok (.istore_n 3, 1) := by decide +kernel
theorem d_Ja_fill_5 : decode prog_14_method_103_code 5 = .ok (.iload_n 2, 1) := by decide +kernel
theorem d_Ja_fill_6 : decode prog_14_method_103_code 6 = .ok (.iload_n 3, 1) := by decide +kernel
theorem d_Ja_fill_7 : decode prog_14_method_103_code 7 = .ok (.if_icmp .ge 13, 3) := by decide +kernel
theorem d_Ja_fill_10 : decode prog_14_method_103_code 10 = .ok (.aload_n 0, 1) := by decide +kernel
theorem d_Ja_fill_11 : decode prog_14_method_103_code 11 = .ok (.iload_n 2, 1) := by decide +kernel
theorem d_Ja_fill_12 : decode prog_14_method_103_code 12 = .ok (.iload_n 1, 1) := by decide +kernel
theorem d_Ja_fill_13 : decode prog_14_method_103_code 13 = .ok (.iastore, 1) := by decide +kernel
theorem d_Ja_fill_14 : decode prog_14_method_103_code 14 = .ok (.iinc 2 1, 3) := by decide +kernel
theorem d_Ja_fill_17 : decode prog_14_method_103_code 17 = .ok (.goto (-12), 3) := by decide +kernel
theorem d_Ja_fill_20 : decode prog_14_method_103_code 20 = .ok (.return_, 1) := by decide +kernel
theorem d_Sh_begin_0 : decode prog_4_method_2_code 0 = .ok (.aload_n 0, 1) := by decide +kernel
theorem d_Sh_begin_1 : decode prog_4_method_2_code 1 = .ok (.iload_n 1, 1) := by decide +kernel
theorem d_Sh_begin_2 : decode prog_4_method_2_code 2 = .ok (.putfield 15, 3) := by decide +kernel
theorem d_Sh_begin_5 : decode prog_4_method_2_code 5 = .ok (.aload_n 0, 1) := by decide +kernel
theorem d_Sh_begin_6 : decode prog_4_method_2_code 6 = .ok (.iload_n 2, 1) := by decide +kernel
theorem d_Sh_begin_7 : decode prog_4_method_2_code 7 = .ok (.putfield 19, 3) := by decide +kernel
theorem d_Sh_begin_10 : decode prog_4_method_2_code 10 = .ok (.aload_n 0, 1) := by decide +kernel
theorem d_Sh_begin_11 : decode prog_4_method_2_code 11 = .ok (.getfield 9, 3) := by decide +kernel
theorem d_Sh_begin_14 : decode prog_4_method_2_code 14 = .ok (.iconst 0, 1) := by decide +kernel
theorem d_Sh_begin_15 : decode prog_4_method_2_code 15 = .ok (.invokestatic 22, 3) := by decide +kernel
theorem d_Sh_begin_18 : decode prog_4_method_2_code 18 = .ok (.return_, 1) := by decide +kernel
theorem d_Sh_put_0 : decode prog_4_method_3_code 0 = .ok (.aload_n 0, 1) := by decide +kernel
theorem d_Sh_put_1 : decode prog_4_method_3_code 1 = .ok (.getfield 15, 3) := by decide +kernel
theorem d_Sh_put_4 : decode prog_4_method_3_code 4 = .ok (.lookupswitch 50 #[(8, 28), (16, 39)], 28) := by decide +kernel
theorem d_Sh_put_32 : decode prog_4_method_3_code 32 = .ok (.aload_n 0, 1) := by decide +kernel
theorem d_Sh_put_33 : decode prog_4_method_3_code 33 = .ok (.getfield 9, 3) := by decide +kernel
theorem d_Sh_put_36 : decode prog_4_method_3_code 36 = .ok (.iload_n 1, 1) := by decide +kernel
theorem d_Sh_put_37 : decode prog_4_method_3_code 37 = .ok (.iload_n 2, 1) := by decide +kernel
theorem d_Sh_put_38 : decode prog_4_method_3_code 38 = .ok (.i2b, 1) := by decide +kernel
theorem d_Sh_put_39 : decode prog_4_method_3_code 39 = .ok (.iastore, 1) := by decide +kernel
theorem d_Sh_put_40 : decode prog_4_method_3_code 40 = .ok (.goto 21, 3) := by decide +kernel
theorem d_Sh_put_43 : decode prog_4_method_3_code 43 = .ok (.aload_n 0, 1) := by decide +kernel
theorem d_Sh_put_44 : decode prog_4_method_3_code 44 = .ok (.getfield 9, 3) := by decide +kernel
theorem d_Sh_put_47 : decode prog_4_method_3_code 47 = .ok (.iload_n 1, 1) := by decide +kernel
theorem d_Sh_put_48 : decode prog_4_method_3_code 48 = .ok (.iload_n 2, 1) := by decide +kernel
theorem d_Sh_put_49 : decode prog_4_method_3_code 49 = .ok (.i2s, 1) := by decide +kernel
theorem d_Sh_put_50 : decode prog_4_method_3_code 50 = .ok (.iastore, 1) := by decide +kernel
theorem d_Sh_put_51 : decode prog_4_method_3_code 51 = .ok (.goto 10, 3) := by decide +kernel
theorem d_Sh_put_54 : decode prog_4_method_3_code 54 = .ok (.aload_n 0, 1) := by decide +kernel
theorem d_Sh_put_55 : decode prog_4_method_3_code 55 = .ok (.getfield 9, 3) := by decide +kernel
theorem d_Sh_put_58 : decode prog_4_method_3_code 58 = .ok (.iload_n 1, 1) := by decide +kernel
theorem d_Sh_put_59 : decode prog_4_method_3_code 59 = .ok (.iload_n 2, 1) := by decide +kernel
theorem d_Sh_put_60 : decode prog_4_method_3_code 60 = .ok (.iastore, 1) := by decide +kernel
theorem d_Sh_put_61 : decode prog_4_method_3_code 61 = .ok (.return_, 1) := by decide +kernel
theorem d_Sh_has_0 : decode prog_4_method_4_code 0 = .ok (.iload_n 1, 1) := by decide +kernel
theorem d_Sh_has_1 : decode prog_4_method_4_code 1 = .ok (.ifCond .lt 29, 3) := by decide +kernel
theorem d_Sh_has_4 : decode prog_4_method_4_code 4 = .ok (.iload_n 2, 1) := by decide +kernel
theorem d_Sh_has_5 : decode prog_4_method_4_code 5 = .ok (.ifCond .lt 25, 3) := by decide +kernel
theorem d_Sh_has_8 : decode prog_4_method_4_code 8 = .ok (.iload_n 2, 1) := by decide +kernel
theorem d_Sh_has_9 : decode prog_4_method_4_code 9 = .ok (.aload_n 0, 1) := by decide +kernel
theorem d_Sh_has_10 : decode prog_4_method_4_code 10 = .ok (.getfield 19, 3) := by decide +kernel
theorem d_Sh_has_13 : decode prog_4_method_4_code 13 = .ok (.if_icmp .gt 17, 3) := by decide +kernel
theorem d_Sh_has_16 : decode prog_4_method_4_code 16 = .ok (.iload_n 1, 1) := by decide +kernel
theorem d_Sh_has_17 : decode prog_4_method_4_code 17 = .ok (.aload_n 0, 1) := by decide +kernel
theorem d_Sh_has_18 : decode prog_4_method_4_code 18 = .ok (.getfield 19, 3) := by decide +kernel
theorem d_Sh_has_21 : decode prog_4_method_4_code 21 = .ok (.iload_n 2, 1) := by decide +kernel
theorem d_Sh_has_22 : decode prog_4_method_4_code 22 = .ok (.isub, 1) := by decide +kernel
theorem d_Sh_has_23 : decode prog_4_method_4_code 23 = .ok (.if_icmp .gt 7, 3) := by decide +kernel
theorem d_Sh_has_26 : decode prog_4_method_4_code 26 = .ok (.iconst 1, 1) := by decide +kernel
theorem d_Sh_has_27 : decode prog_4_method_4_code 27 = .ok (.goto 4, 3) := by decide +kernel
theorem d_Sh_has_30 : decode prog_4_method_4_code 30 = .ok (.iconst 0, 1) := by decide +kernel
theorem d_Sh_has_31 : decode prog_4_method_4_code 31 = .ok (.ireturn, 1) := by decide +kernel
theorem d_X_lackOf_0 : decode prog_1_method_47_code 0 = .ok (.iload_n 1, 1) := by decide +kernel
theorem d_X_lackOf_1 : decode prog_1_method_47_code 1 = .ok (.iconst 0, 1) := by decide +kernel
theorem d_X_lackOf_2 : decode prog_1_method_47_code 2 = .ok (.iconst 3, 1) := by decide +kernel
theorem d_X_lackOf_3 : decode prog_1_method_47_code 3 = .ok (.invokestatic 44, 3) := by decide +kernel
theorem d_X_lackOf_6 : decode prog_1_method_47_code 6 = .ok (.ifCond .ne 6, 3) := by decide +kernel
theorem d_X_lackOf_9 : decode prog_1_method_47_code 9 = .ok (.ldc 48, 2) := by decide +kernel
theorem d_X_lackOf_11 : decode prog_1_method_47_code 11 = .ok (.ireturn, 1) := by decide +kernel
theorem d_X_lackOf_12 : decode prog_1_method_47_code 12 = .ok (.aload_n 0, 1) := by decide +kernel
theorem d_X_lackOf_13 : decode prog_1_method_47_code 13 = .ok (.getfield 35, 3) := by decide +kernel
theorem d_X_lackOf_16 : decode prog_1_method_47_code 16 = .ok (.iload_n 1, 1) := by decide +kernel
theorem d_X_lackOf_17 : decode prog_1_method_47_code 17 = .ok (.aaload, 1) := by decide +kernel
theorem d_X_lackOf_18 : decode prog_1_method_47_code 18 = .ok (.getfield 207, 3) := by decide +kernel
theorem d_X_lackOf_21 : decode prog_1_method_47_code 21 = .ok (.ifCond .ne 8, 3) := by decide +kernel
theorem d_X_lackOf_24 : decode prog_1_method_47_code 24 = .ok (.ldc 192, 2) := by decide +kernel
theorem d_X_lackOf_26 : decode prog_1_method_47_code 26 = .ok (.goto 4, 3) := by decide +kernel
theorem d_X_lackOf_30 : decode prog_1_method_47_code 30 = .ok (.ireturn, 1) := by decide +kernel
theorem d_X_lackOf_29 : decode prog_1_method_47_code 29 = .ok (.iconst 0, 1) := by decide +kernel
theorem d_X_sheet_0 : decode prog_1_method_34_code 0 = .ok (.iload_n 2, 1) := by decide +kernel
theorem d_X_sheet_1 : decode prog_1_method_34_code 1 = .ok (.ifCond .eq 21, 3) := by decide +kernel
theorem d_X_sheet_22 : decode prog_1_method_34_code 22 = .ok (.iconst 1, 1) := by decide +kernel
theorem d_X_sheet_23 : decode prog_1_method_34_code 23 = .ok (.goto 4, 3) := by decide +kernel
theorem d_X_sheet_27 : decode prog_1_method_34_code 27 = .ok (.istore 4, 2) := by decide +kernel
theorem d_X_sheet_29 : decode prog_1_method_34_code 29 = .ok (.iload_n 1, 1) := by decide +kernel
theorem d_X_sheet_30 : decode prog_1_method_34_code 30 = .ok (.iconst 0, 1) := by decide +kernel
theorem d_X_sheet_31 : decode prog_1_method_34_code 31 = .ok (.iconst 3, 1) := by decide +kernel
theorem d_X_sheet_32 : decode prog_1_method_34_code 32 = .ok (.invokestatic 44, 3) := by decide +kernel
theorem d_X_sheet_35 : decode prog_1_method_34_code 35 = .ok (.ifCond .eq 8, 3) := by decide +kernel
theorem d_X_sheet_38 : decode prog_1_method_34_code 38 = .ok (.iload 4, 2) := by decide +kernel
theorem d_X_sheet_40 : decode prog_1_method_34_code 40 = .ok (.ifCond .ne 10, 3) := by decide +kernel
theorem d_X_sheet_50 : decode prog_1_method_34_code 50 = .ok (.iload_n 3, 1) := by decide +kernel
theorem d_X_sheet_51 : decode prog_1_method_34_code 51 = .ok (.ifCond .ge 10, 3) := by decide +kernel
theorem d_X_sheet_61 : decode prog_1_method_34_code 61 = .ok (.iload_n 3, 1) := by decide +kernel
theorem d_X_sheet_62 : decode prog_1_method_34_code 62 = .ok (.bipush 40, 2) := by decide +kernel
theorem d_X_sheet_64 : decode prog_1_method_34_code 64 = .ok (.if_icmp .le 10, 3) := by decide +kernel
theorem d_X_sheet_74 : decode prog_1_method_34_code 74 = .ok (.aload_n 0, 1) := by decide +kernel
theorem d_X_sheet_75 : decode prog_1_method_34_code 75 = .ok (.getfield 35, 3) := by decide +kernel
theorem d_X_sheet_78 : decode prog_1_method_34_code 78 = .ok (.iload_n 1, 1) := by decide +kernel
theorem d_X_sheet_79 : decode prog_1_method_34_code 79 = .ok (.aaload, 1) := by decide +kernel
theorem d_X_sheet_80 : decode prog_1_method_34_code 80 = .ok (.iload_n 2, 1) := by decide +kernel
theorem d_X_sheet_81 : decode prog_1_method_34_code 81 = .ok (.iload_n 2, 1) := by decide +kernel
theorem d_X_sheet_82 : decode prog_1_method_34_code 82 = .ok (.ifCond .ne 7, 3) := by decide +kernel
theorem d_X_sheet_85 : decode prog_1_method_34_code 85 = .ok (.iconst 0, 1) := by decide +kernel
theorem d_X_sheet_86 : decode prog_1_method_34_code 86 = .ok (.goto 4, 3) := by decide +kernel
theorem d_X_sheet_90 : decode prog_1_method_34_code 90 = .ok (.invokevirtual 198, 3) := by decide +kernel
theorem d_X_sheet_93 : decode prog_1_method_34_code 93 = .ok (.aload_n 0, 1) := by decide +kernel
theorem d_X_sheet_94 : decode prog_1_method_34_code 94 = .ok (.getfield 35, 3) := by decide +kernel
theorem d_X_sheet_97 : decode prog_1_method_34_code 97 = .ok (.iload_n 1, 1) := by decide +kernel
theorem d_X_sheet_98 : decode prog_1_method_34_code 98 = .ok (.aaload, 1) := by decide +kernel
theorem d_X_sheet_99 : decode prog_1_method_34_code 99 = .ok (.getfield 201, 3) := by decide +kernel
theorem d_X_sheet_102 : decode prog_1_method_34_code 102 = .ok (.ireturn, 1) := by decide +kernel
theorem d_X_sheet_54 : decode prog_1_method_34_code 54 = .ok (.aload_n 0, 1) := by decide +kernel
theorem d_X_sheet_55 : decode prog_1_method_34_code 55 = .ok (.ldc 197, 2) := by decide +kernel
theorem d_X_sheet_57 : decode prog_1_method_34_code 57 = .ok (.invokevirtual 49, 3) := by decide +kernel
theorem d_X_sheet_60 : decode prog_1_method_34_code 60 = .ok (.ireturn, 1) := by decide +kernel
theorem d_X_sheet_67 : decode prog_1_method_34_code 67 = .ok (.aload_n 0, 1) := by decide +kernel
theorem d_X_sheet_68 : decode prog_1_method_34_code 68 = .ok (.ldc 48, 2) := by decide +kernel
theorem d_X_sheet_70 : decode prog_1_method_34_code 70 = .ok (.invokevirtual 49, 3) := by decide +kernel
theorem d_X_sheet_73 : decode prog_1_method_34_code 73 = .ok (.ireturn, 1) := by decide +kernel
theorem d_X_sheet_4 : decode prog_1_method_34_code 4 = .ok (.iload_n 2, 1) := by decide +kernel
theorem d_X_sheet_5 : decode prog_1_method_34_code 5 = .ok (.bipush 8, 2) := by decide +kernel
theorem d_X_sheet_7 : decode prog_1_method_34_code 7 = .ok (.if_icmp .eq 15, 3) := by decide +kernel
theorem d_X_sheet_89 : decode prog_1_method_34_code 89 = .ok (.iload_n 3, 1) := by decide +kernel
theorem d_X_sheet_10 : decode prog_1_method_34_code 10 = .ok (.iload_n 2, 1) := by decide +kernel
theorem d_X_sheet_11 : decode prog_1_method_34_code 11 = .ok (.bipush 16, 2) := by decide +kernel
theorem d_X_sheet_13 : decode prog_1_method_34_code 13 = .ok (.if_icmp .eq 9, 3) := by decide +kernel
theorem d_X_sheet_16 : decode prog_1_method_34_code 16 = .ok (.iload_n 2, 1) := by decide +kernel
theorem d_X_sheet_17 : decode prog_1_method_34_code 17 = .ok (.bipush 32, 2) := by decide +kernel
theorem d_X_sheet_19 : decode prog_1_method_34_code 19 = .ok (.if_icmp .ne 7, 3) := by decide +kernel
theorem d_X_sheet_26 : decode prog_1_method_34_code 26 = .ok (.iconst 0, 1) := by decide +kernel
theorem d_X_sheet_43 : decode prog_1_method_34_code 43 = .ok (.aload_n 0, 1) := by decide +kernel
theorem d_X_sheet_44 : decode prog_1_method_34_code 44 = .ok (.ldc 48, 2) := by decide +kernel
theorem d_X_sheet_46 : decode prog_1_method_34_code 46 = .ok (.invokevirtual 49, 3) := by decide +kernel
theorem d_X_sheet_49 : decode prog_1_method_34_code 49 = .ok (.ireturn, 1) := by decide +kernel
theorem d_X_write_0 : decode prog_1_method_35_code 0 = .ok (.aload_n 0, 1) := by decide +kernel
theorem d_X_write_1 : decode prog_1_method_35_code 1 = .ok (.iload_n 1, 1) := by decide +kernel
theorem d_X_write_2 : decode prog_1_method_35_code 2 = .ok (.invokevirtual 161, 3) := by decide +kernel
theorem d_X_write_5 : decode prog_1_method_35_code 5 = .ok (.istore 4, 2) := by decide +kernel
theorem d_X_write_7 : decode prog_1_method_35_code 7 = .ok (.iload 4, 2) := by decide +kernel
theorem d_X_write_9 : decode prog_1_method_35_code 9 = .ok (.ifCond .eq 10, 3) := by decide +kernel
theorem d_X_write_19 : decode prog_1_method_35_code 19 = .ok (.iload_n 2, 1) := by decide +kernel
theorem d_X_write_20 : decode prog_1_method_35_code 20 = .ok (.iconst 0, 1) := by decide +kernel
theorem d_X_write_21 : decode prog_1_method_35_code 21 = .ok (.aload_n 0, 1) := by decide +kernel
theorem d_X_write_22 : decode prog_1_method_35_code 22 = .ok (.getfield 35, 3) := by decide +kernel
theorem d_X_write_25 : decode prog_1_method_35_code 25 = .ok (.iload_n 1, 1) := by decide +kernel
theorem d_X_write_26 : decode prog_1_method_35_code 26 = .ok (.aaload, 1) := by decide +kernel
theorem d_X_write_27 : decode prog_1_method_35_code 27 = .ok (.getfield 201, 3) := by decide +kernel
theorem d_X_write_30 : decode prog_1_method_35_code 30 = .ok (.iconst 1, 1) := by decide +kernel
theorem d_X_write_31 : decode prog_1_method_35_code 31 = .ok (.isub, 1) := by decide +kernel
theorem d_X_write_32 : decode prog_1_method_35_code 32 = .ok (.invokestatic 44, 3) := by decide +kernel
theorem d_X_write_35 : decode prog_1_method_35_code 35 = .ok (.ifCond .ne 10, 3) := by decide +kernel
theorem d_X_write_45 : decode prog_1_method_35_code 45 = .ok (.aload_n 0, 1) := by decide +kernel
theorem d_X_write_46 : decode prog_1_method_35_code 46 = .ok (.getfield 35, 3) := by decide +kernel
theorem d_X_write_49 : decode prog_1_method_35_code 49 = .ok (.iload_n 1, 1) := by decide +kernel
theorem d_X_write_50 : decode prog_1_method_35_code 50 = .ok (.aaload, 1) := by decide +kernel
theorem d_X_write_51 : decode prog_1_method_35_code 51 = .ok (.iload_n 2, 1) := by decide +kernel
theorem d_X_write_52 : decode prog_1_method_35_code 52 = .ok (.iload_n 3, 1) := by decide +kernel
theorem d_X_write_53 : decode prog_1_method_35_code 53 = .ok (.invokevirtual 204, 3) := by decide +kernel
theorem d_X_write_56 : decode prog_1_method_35_code 56 = .ok (.iconst 1, 1) := by decide +kernel
theorem d_X_write_57 : decode prog_1_method_35_code 57 = .ok (.ireturn, 1) := by decide +kernel
theorem d_X_write_12 : decode prog_1_method_35_code 12 = .ok (.aload_n 0, 1) := by decide +kernel
theorem d_X_write_13 : decode prog_1_method_35_code 13 = .ok (.iload 4, 2) := by decide +kernel
theorem d_X_write_15 : decode prog_1_method_35_code 15 = .ok (.invokevirtual 49, 3) := by decide +kernel
theorem d_X_write_18 : decode prog_1_method_35_code 18 = .ok (.ireturn, 1) := by decide +kernel
theorem d_X_write_38 : decode prog_1_method_35_code 38 = .ok (.aload_n 0, 1) := by decide +kernel
theorem d_X_write_39 : decode prog_1_method_35_code 39 = .ok (.ldc 48, 2) := by decide +kernel
theorem d_X_write_41 : decode prog_1_method_35_code 41 = .ok (.invokevirtual 49, 3) := by decide +kernel
theorem d_X_write_44 : decode prog_1_method_35_code 44 = .ok (.ireturn, 1) := by decide +kernel
set_option maxHeartbeats 1000000 in
set_option maxRecDepth 20000 in
theorem c_Ja_fill (l : Launch) (E : QE) (S : QM) (j : Nat) (σ : Nat → Int32) (hj : j < 4) (hσ : S (10 + j) = σ) : qCV E l y_Ja_fill prog_14_method_103_code 4 1 [.ref (eA E (65 + j)), .int (nI 0)] S (qr S (10 + j) (zer σ)) := by
  refine qCV_of (by decide) (Nat.le_of_ble_eq_true rfl) (fun p e s m below meth c ls X hW hl => ?_)
  have hl : lv_has ls 4 [(0, .ref (eA E (65 + j))), (1, .int (nI 0))] := hl
  refine lv_iconst (v := nI 0) X.x X.b d_Ja_fill_0 (by decide) ?_
  refine lv_istore_n (lv' := [(2, .int (nI 0)), (0, .ref (eA E (65 + j))), (1, .int (nI 0))]) X.x X.b d_Ja_fill_1 rfl hl (by decide) rfl (fun ls hl => ?_)
  refine lv_aload_n X.x X.b d_Ja_fill_2 rfl (lv_at hl 1 rfl) ?_
  refine q_alen X hW _ (ds_n (j := j) (by omega)) (v := nI 40) rfl d_Ja_fill_3 ?_
  refine lv_istore_n (lv' := [(3, .int (nI 40)), (2, .int (nI 0)), (0, .ref (eA E (65 + j))), (1, .int (nI 0))]) X.x X.b d_Ja_fill_4 rfl hl (by decide) rfl (fun ls hl => ?_)
  have hW : qWH E (qr S (10 + j) σ) s s.heap [] := by rw [← hσ, qr_self]; exact hW
  have loop5 : ∀ (fu5 : Nat) (i : Nat) (μ : Nat → Int32), i ≤ 40 → μ = fo (fun i μ => upd μ i (nI 0)) i σ → 40 - i < fu5 → ∀ (H : Heap) (locs : List Loc) (ls : Array Slot), qWH E (qr S (10 + j) μ) s H locs → lv_has ls 4 [(3, .int (nI 40)), (2, .int (nI i)), (0, .ref (eA E (65 + j))), (1, .int (nI 0))] → W p l e (qRm 1) s m ([.ref (eA E (65 + j)), .int (nI 0)] : List Value).toArray below meth c H locs 0 0 (MQ below (qQv E (qr S (10 + j) (zer σ)) s.heap.size) ([.ref (eA E (65 + j)), .int (nI 0)] : List Value).toArray s 0 0 (qAA E s.heap.size)) (F0 m 5 ls []) := by
    intro fu5
    induction fu5 with
    | zero =>
      intro i μ hi hm hfu
      exact absurd hfu (Nat.not_lt_zero _)
    | succ fu5 ih5 =>
      intro i μ hi hm hfu H locs ls hW hl
      refine lv_iload_n X.x X.b d_Ja_fill_5 rfl (lv_at hl 1 rfl) ?_
      refine lv_iload_n X.x X.b d_Ja_fill_6 rfl (lv_at hl 0 rfl) ?_
      refine lv_icmp_ge (tgt := 20) X.x X.b d_Ja_fill_7 (by decide) (fun c7 => ?_) (fun c7 => ?_)
      · have c7 : 40 ≤ i := (nI_leI (a := 40) (b := i) (by omega) (by omega)).mp c7
        exact q_vret X hW (by rw [hm, show i = 40 by omega]; rfl) d_Ja_fill_20
      · have c7 : ¬ 40 ≤ i := fun z => c7 ((nI_leI (a := 40) (b := i) (by omega) (by omega)).mpr z)
        refine lv_aload_n X.x X.b d_Ja_fill_10 rfl (lv_at hl 2 rfl) ?_
        refine lv_iload_n X.x X.b d_Ja_fill_11 rfl (lv_at hl 1 rfl) ?_
        refine lv_iload_n X.x X.b d_Ja_fill_12 rfl (lv_at hl 3 rfl) ?_
        refine g_ast X hW (ds_n (j := j) (by omega)) (q_in (by omega) (by decide)) (p0 := i) (q_tn (by omega) (by omega)) (ρ := μ) (by rw [qr_at]) d_Ja_fill_13 (fun H locs hW => ?_)
        obtain ⟨r13, er13⟩ : ∃ z, z = upd μ i (nI 0) := ⟨_, rfl⟩
        rw [← er13] at hW
        rw [qr_qr] at hW
        refine lv_iinc (v := nI (i + 1)) (lv' := [(2, .int (nI (i + 1))), (3, .int (nI 40)), (0, .ref (eA E (65 + j))), (1, .int (nI 0))]) X.x X.b d_Ja_fill_14 hl (k := 1) rfl (by rw [show Int32.ofInt 1 = nI 1 from by decide, nI_add]) (by decide) rfl (fun ls hl => ?_)
        refine lv_goto (tgt := 5) X.x X.b d_Ja_fill_17 (by decide) ?_
        exact ih5 (i + 1) r13 (by omega) (by rw [er13, hm]; rfl) (by omega) _ _ _ hW (lv_sub hl [1, 0, 2, 3] rfl)
  exact loop5 (40 - 0 + 1) 0 σ (by omega) rfl (Nat.lt_succ_self _) _ _ _ hW (lv_sub hl [0, 1, 2, 3] rfl)
set_option maxHeartbeats 1000000 in
set_option maxRecDepth 20000 in
theorem c_Sh_begin (l : Launch) (E : QE) (S : QM) (j : Nat) (β σ : Nat → Int32) (hj : j < 4) (hβ : S (6 + j) = β) (hσ : S (10 + j) = σ) (b n : Int32) : qCV E l y_Sh_begin prog_4_method_2_code 3 2 [.ref (eA E (61 + j)), .int b, .int n] S (qr (qr S (6 + j) (upd (upd β 1 b) 2 n)) (10 + j) (zer σ)) := by
  refine qCV_of (by decide) (Nat.le_of_ble_eq_true rfl) (fun p e s m below meth c ls X hW hl => ?_)
  have hl : lv_has ls 3 [(0, .ref (eA E (61 + j))), (1, .int b), (2, .int n)] := hl
  refine lv_aload_n X.x X.b d_Sh_begin_0 rfl (lv_at hl 0 rfl) ?_
  refine lv_iload_n X.x X.b d_Sh_begin_1 rfl (lv_at hl 1 rfl) ?_
  refine g_puti X hW qj1 qp1 qn1 rfl _ (ds_s (j := j) (by omega)) 1 (by decide) mw_172 rfl rfl (r0 := 6 + j) (p0 := 1) rfl rfl rfl (ρ := β) (by rw [hβ]) d_Sh_begin_2 (fun H locs hW => ?_)
  obtain ⟨r2, er2⟩ : ∃ z, z = upd β 1 b := ⟨_, rfl⟩
  rw [← er2] at hW
  refine lv_aload_n X.x X.b d_Sh_begin_5 rfl (lv_at hl 0 rfl) ?_
  refine lv_iload_n X.x X.b d_Sh_begin_6 rfl (lv_at hl 2 rfl) ?_
  refine g_puti X hW qj1 qp1 qn1 rfl _ (ds_s (j := j) (by omega)) 2 (by decide) mw_174 rfl rfl (r0 := 6 + j) (p0 := 2) rfl rfl rfl (ρ := r2) (by rw [qr_at]) d_Sh_begin_7 (fun H locs hW => ?_)
  obtain ⟨r7, er7⟩ : ∃ z, z = upd r2 2 n := ⟨_, rfl⟩
  rw [← er7] at hW
  rw [qr_qr] at hW
  refine lv_aload_n X.x X.b d_Sh_begin_10 rfl (lv_at hl 0 rfl) ?_
  refine q_getr X hW qj1 rfl _ (ds_s (j := j) (by omega)) 0 (by decide) mw_170 rfl (c1 := 65 + j) rfl d_Sh_begin_11 ?_
  refine lv_iconst (v := nI 0) X.x X.b d_Sh_begin_14 (by decide) ?_
  refine q_csv X (c_Ja_fill l E (qr S (6 + j) r7) j σ (by omega) (by rw [qr_ne (by omega), hσ])) hW ok_Ja_fill mw_621 ⟨by decide, by decide⟩ (As := [.ref (eA E (65 + j)), .int (nI 0)]) rfl rfl (Nat.le_of_ble_eq_true rfl) (lv := [(0, .ref (eA E (61 + j))), (1, .int b), (2, .int n)]) hl ⟨Nat.le_refl 0, Nat.le_refl 0⟩ d_Sh_begin_15 (fun H locs hW => ?_)
  have hW : qWH E (qr (qr S (6 + j) r7) (10 + j) (zer σ)) s H locs := hW
  exact q_vret X hW (by rw [er7, er2]) d_Sh_begin_18
set_option maxHeartbeats 1000000 in
set_option maxRecDepth 20000 in
theorem c_Sh_put (l : Launch) (E : QE) (S : QM) (j : Nat) (β σ : Nat → Int32) (hj : j < 4) (hβ : S (6 + j) = β) (hσ : S (10 + j) = σ) (i : Nat) (v : Int32) (hi : i < 40) : qCV E l y_Sh_put prog_4_method_3_code 3 1 [.ref (eA E (61 + j)), .int (nI i), .int v] S (qr S (10 + j) (upd σ i (cutS (β 1) v))) := by
  refine qCV_of (by decide) (Nat.le_of_ble_eq_true rfl) (fun p e s m below meth c ls X hW hl => ?_)
  have hl : lv_has ls 3 [(0, .ref (eA E (61 + j))), (1, .int (nI i)), (2, .int v)] := hl
  refine lv_aload_n X.x X.b d_Sh_put_0 rfl (lv_at hl 0 rfl) ?_
  refine g_geti X hW qj1 rfl _ (ds_s (j := j) (by omega)) 1 (by decide) mw_172 rfl (r0 := 6 + j) (p0 := 1) rfl (v := β 1) (by rw [hβ]) d_Sh_put_1 ?_
  refine lv_topi (fun x1 ex1 => ?_)
  by_cases c4_8 : x1 = nI 8
  · refine W.eq (congrArg (fun z => F0 m 4 ls (.int z :: [])) c4_8) ?_
    refine lv_lookup (tgt := 32) (off := 28) X.x X.b d_Sh_put_4 (by decide) (by decide) (by decide) ?_
    refine lv_aload_n X.x X.b d_Sh_put_32 rfl (lv_at hl 0 rfl) ?_
    refine q_getr X hW qj1 rfl _ (ds_s (j := j) (by omega)) 0 (by decide) mw_170 rfl (c1 := 65 + j) rfl d_Sh_put_33 ?_
    refine lv_iload_n X.x X.b d_Sh_put_36 rfl (lv_at hl 1 rfl) ?_
    refine lv_iload_n X.x X.b d_Sh_put_37 rfl (lv_at hl 2 rfl) ?_
    refine lv_i2b (v := v.toInt8.toInt32) X.x X.b d_Sh_put_38 rfl ?_
    refine g_ast X hW (ds_n (j := j) (by omega)) (q_in (by omega) (by decide)) (p0 := i) (q_tn (by omega) (by omega)) (ρ := σ) (by rw [hσ]) d_Sh_put_39 (fun H locs hW => ?_)
    obtain ⟨r39, er39⟩ : ∃ z, z = upd σ i v.toInt8.toInt32 := ⟨_, rfl⟩
    rw [← er39] at hW
    refine lv_goto (tgt := 61) X.x X.b d_Sh_put_40 (by decide) ?_
    exact q_vret X hW (by rw [er39]; unfold cutS; rw [← ex1]; simp_all) d_Sh_put_61
  by_cases c4_16 : x1 = nI 16
  · refine W.eq (congrArg (fun z => F0 m 4 ls (.int z :: [])) c4_16) ?_
    refine lv_lookup (tgt := 43) (off := 39) X.x X.b d_Sh_put_4 (by decide) (by decide) (by decide) ?_
    refine lv_aload_n X.x X.b d_Sh_put_43 rfl (lv_at hl 0 rfl) ?_
    refine q_getr X hW qj1 rfl _ (ds_s (j := j) (by omega)) 0 (by decide) mw_170 rfl (c1 := 65 + j) rfl d_Sh_put_44 ?_
    refine lv_iload_n X.x X.b d_Sh_put_47 rfl (lv_at hl 1 rfl) ?_
    refine lv_iload_n X.x X.b d_Sh_put_48 rfl (lv_at hl 2 rfl) ?_
    refine lv_i2s (v := v.toInt16.toInt32) X.x X.b d_Sh_put_49 rfl ?_
    refine g_ast X hW (ds_n (j := j) (by omega)) (q_in (by omega) (by decide)) (p0 := i) (q_tn (by omega) (by omega)) (ρ := σ) (by rw [hσ]) d_Sh_put_50 (fun H locs hW => ?_)
    obtain ⟨r50, er50⟩ : ∃ z, z = upd σ i v.toInt16.toInt32 := ⟨_, rfl⟩
    rw [← er50] at hW
    refine lv_goto (tgt := 61) X.x X.b d_Sh_put_51 (by decide) ?_
    exact q_vret X hW (by rw [er50]; unfold cutS; rw [← ex1]; simp_all) d_Sh_put_61
  refine lv_lookup (tgt := 54) (off := 50) X.x X.b d_Sh_put_4 (by decide) (by show Op.lookupswitch.offset [(8, 28), (16, 39)] 50 _ = _; rw [lv_osw c4_8 (by decide), lv_osw c4_16 (by decide)]; rfl) (by decide) ?_
  refine lv_aload_n X.x X.b d_Sh_put_54 rfl (lv_at hl 0 rfl) ?_
  refine q_getr X hW qj1 rfl _ (ds_s (j := j) (by omega)) 0 (by decide) mw_170 rfl (c1 := 65 + j) rfl d_Sh_put_55 ?_
  refine lv_iload_n X.x X.b d_Sh_put_58 rfl (lv_at hl 1 rfl) ?_
  refine lv_iload_n X.x X.b d_Sh_put_59 rfl (lv_at hl 2 rfl) ?_
  refine g_ast X hW (ds_n (j := j) (by omega)) (q_in (by omega) (by decide)) (p0 := i) (q_tn (by omega) (by omega)) (ρ := σ) (by rw [hσ]) d_Sh_put_60 (fun H locs hW => ?_)
  obtain ⟨r60, er60⟩ : ∃ z, z = upd σ i v := ⟨_, rfl⟩
  rw [← er60] at hW
  exact q_vret X hW (by rw [er60]; unfold cutS; rw [← ex1]; simp_all) d_Sh_put_61
set_option maxHeartbeats 1000000 in
set_option maxRecDepth 20000 in
theorem c_Sh_has (l : Launch) (E : QE) (S : QM) (j : Nat) (β σ : Nat → Int32) (hj : j < 4) (hβ : S (6 + j) = β) (hσ : S (10 + j) = σ) (f n : Int32) : qCI E l y_Sh_has prog_4_method_4_code 3 .boolean 1 [.ref (eA E (61 + j)), .int f, .int n] S (b2i (hasS f n (β 2))) S := by
  refine qCI_of (by decide) (Nat.le_of_ble_eq_true rfl) (fun p e s m below meth c ls X hW hl => ?_)
  have hl : lv_has ls 3 [(0, .ref (eA E (61 + j))), (1, .int f), (2, .int n)] := hl
  refine lv_iload_n X.x X.b d_Sh_has_0 rfl (lv_at hl 1 rfl) ?_
  refine lv_if_lt (tgt := 30) X.x X.b d_Sh_has_1 (by decide) (fun c1 => ?_) (fun c1 => ?_)
  · refine lv_iconst (v := nI 0) X.x X.b d_Sh_has_30 (by decide) ?_
    exact q_zret X (by decide) hW ⟨(b2i_f (fun z => z.1.1 c1)).symm, rfl⟩ d_Sh_has_31
  · refine lv_iload_n X.x X.b d_Sh_has_4 rfl (lv_at hl 2 rfl) ?_
    refine lv_if_lt (tgt := 30) X.x X.b d_Sh_has_5 (by decide) (fun c5 => ?_) (fun c5 => ?_)
    · refine lv_iconst (v := nI 0) X.x X.b d_Sh_has_30 (by decide) ?_
      exact q_zret X (by decide) hW ⟨(b2i_f (fun z => z.1.2 c5)).symm, rfl⟩ d_Sh_has_31
    · refine lv_iload_n X.x X.b d_Sh_has_8 rfl (lv_at hl 2 rfl) ?_
      refine lv_aload_n X.x X.b d_Sh_has_9 rfl (lv_at hl 0 rfl) ?_
      refine g_geti X hW qj1 rfl _ (ds_s (j := j) (by omega)) 2 (by decide) mw_174 rfl (r0 := 6 + j) (p0 := 2) rfl (v := β 2) (by rw [hβ]) d_Sh_has_10 ?_
      refine lv_icmp_gt (tgt := 30) X.x X.b d_Sh_has_13 (by decide) (fun c13 => ?_) (fun c13 => ?_)
      · refine lv_iconst (v := nI 0) X.x X.b d_Sh_has_30 (by decide) ?_
        exact q_zret X (by decide) hW ⟨(b2i_f (fun z => z.2.1 c13)).symm, rfl⟩ d_Sh_has_31
      · refine lv_iload_n X.x X.b d_Sh_has_16 rfl (lv_at hl 1 rfl) ?_
        refine lv_aload_n X.x X.b d_Sh_has_17 rfl (lv_at hl 0 rfl) ?_
        refine g_geti X hW qj1 rfl _ (ds_s (j := j) (by omega)) 2 (by decide) mw_174 rfl (r0 := 6 + j) (p0 := 2) rfl (v := β 2) (by rw [hβ]) d_Sh_has_18 ?_
        refine lv_iload_n X.x X.b d_Sh_has_21 rfl (lv_at hl 2 rfl) ?_
        refine lv_isub X.x X.b d_Sh_has_22 ?_
        refine lv_icmp_gt (tgt := 30) X.x X.b d_Sh_has_23 (by decide) (fun c23 => ?_) (fun c23 => ?_)
        · refine lv_iconst (v := nI 0) X.x X.b d_Sh_has_30 (by decide) ?_
          exact q_zret X (by decide) hW ⟨(b2i_f (fun z => z.2.2 c23)).symm, rfl⟩ d_Sh_has_31
        · refine lv_iconst (v := nI 1) X.x X.b d_Sh_has_26 (by decide) ?_
          refine lv_goto (tgt := 31) X.x X.b d_Sh_has_27 (by decide) ?_
          exact q_zret X (by decide) hW ⟨(b2i_t ⟨⟨c1, c5⟩, by first | exact c13, c23⟩).symm, rfl⟩ d_Sh_has_31
set_option maxHeartbeats 1000000 in
set_option maxRecDepth 20000 in
theorem c_X_lackOf_a (l : Launch) (E : QE) (S : QM) (x : Int32) (h : ¬ inR 0 3 x) : qCI E l y_X_lackOf prog_1_method_47_code 2 .int 2 [.ref (eA E 0), .int x] S (-1000001) S := by
  refine qCI_of (by decide) (Nat.le_of_ble_eq_true rfl) (fun p e s m below meth c ls X hW hl => ?_)
  have hl : lv_has ls 2 [(0, .ref (eA E 0)), (1, .int x)] := hl
  refine lv_iload_n X.x X.b d_X_lackOf_0 rfl (lv_at hl 1 rfl) ?_
  refine lv_iconst (v := nI 0) X.x X.b d_X_lackOf_1 (by decide) ?_
  refine lv_iconst (v := nI 3) X.x X.b d_X_lackOf_2 (by decide) ?_
  refine q_csi X (c_X_within l E S x (nI 0) (nI 3)) hW ok_X_within mw_209 ⟨by decide, by decide⟩ (As := [.int x, .int (nI 0), .int (nI 3)]) rfl rfl (Nat.le_of_ble_eq_true rfl) (lv := [(0, .ref (eA E 0)), (1, .int x)]) hl ⟨Nat.le_refl 0, Nat.le_refl 0⟩ d_X_lackOf_3 (fun H locs hW => ?_)
  refine lv_if_ne (tgt := 12) X.x X.b d_X_lackOf_6 (by decide) (fun c6 => ?_) (fun c6 => ?_)
  · have c6 := b2i_n c6
    exact absurd c6 h
  · have c6 := b2i_e c6
    refine lv_ldc (v := (-1000001)) X.x X.b X.ow (X.ts _ mw_212) d_X_lackOf_9 ?_
    exact q_zret X rfl hW ⟨rfl, rfl⟩ d_X_lackOf_11
set_option maxHeartbeats 1000000 in
set_option maxRecDepth 20000 in
theorem c_X_lackOf_b (l : Launch) (E : QE) (S : QM) (j : Nat) (β : Nat → Int32) (hj : j < 4) (hβ : S (6 + j) = β) (hb : β 1 = 0) : qCI E l y_X_lackOf prog_1_method_47_code 2 .int 2 [.ref (eA E 0), .int (nI j)] S (-1000006) S := by
  refine qCI_of (by decide) (Nat.le_of_ble_eq_true rfl) (fun p e s m below meth c ls X hW hl => ?_)
  have hl : lv_has ls 2 [(0, .ref (eA E 0)), (1, .int (nI j))] := hl
  refine lv_iload_n X.x X.b d_X_lackOf_0 rfl (lv_at hl 1 rfl) ?_
  refine lv_iconst (v := nI 0) X.x X.b d_X_lackOf_1 (by decide) ?_
  refine lv_iconst (v := nI 3) X.x X.b d_X_lackOf_2 (by decide) ?_
  refine q_csi X (c_X_within l E S (nI j) (nI 0) (nI 3)) hW ok_X_within mw_209 ⟨by decide, by decide⟩ (As := [.int (nI j), .int (nI 0), .int (nI 3)]) rfl rfl (Nat.le_of_ble_eq_true rfl) (lv := [(0, .ref (eA E 0)), (1, .int (nI j))]) hl ⟨Nat.le_refl 0, Nat.le_refl 0⟩ d_X_lackOf_3 (fun H locs hW => ?_)
  refine lv_if_ne (tgt := 12) X.x X.b d_X_lackOf_6 (by decide) (fun c6 => ?_) (fun c6 => ?_)
  · have c6 := b2i_n c6
    have c6 := (inR_i (by omega) (by decide)).mp c6
    refine lv_aload_n X.x X.b d_X_lackOf_12 rfl (lv_at hl 0 rfl) ?_
    refine q_getr X hW qj3 rfl _ ds_X 5 (by decide) mw_188 rfl (c1 := 60) rfl d_X_lackOf_13 ?_
    refine lv_iload_n X.x X.b d_X_lackOf_16 rfl (lv_at hl 1 rfl) ?_
    refine g_ss X hW (show j < 4 by omega) d_X_lackOf_17 ?_
    refine g_geti X hW qj1 rfl _ (ds_s (j := j) (by omega)) 1 (by decide) mw_173 rfl (r0 := 6 + j) (p0 := 1) rfl (v := β 1) (by rw [hβ]) d_X_lackOf_18 ?_
    refine lv_if_ne (tgt := 29) X.x X.b d_X_lackOf_21 (by decide) (fun c21 => ?_) (fun c21 => ?_)
    · exact absurd hb c21
    · refine lv_ldc (v := (-1000006)) X.x X.b X.ow (X.ts _ mw_441) d_X_lackOf_24 ?_
      refine lv_goto (tgt := 30) X.x X.b d_X_lackOf_26 (by decide) ?_
      exact q_zret X rfl hW ⟨rfl, rfl⟩ d_X_lackOf_30
  · have c6 := b2i_e c6
    have c6 := mt (inR_i (by omega) (by decide)).mpr c6
    omega
set_option maxHeartbeats 1000000 in
set_option maxRecDepth 20000 in
theorem c_X_lackOf_c (l : Launch) (E : QE) (S : QM) (j : Nat) (β : Nat → Int32) (hj : j < 4) (hβ : S (6 + j) = β) (hb : ¬ β 1 = 0) : qCI E l y_X_lackOf prog_1_method_47_code 2 .int 2 [.ref (eA E 0), .int (nI j)] S (nI 0) S := by
  refine qCI_of (by decide) (Nat.le_of_ble_eq_true rfl) (fun p e s m below meth c ls X hW hl => ?_)
  have hl : lv_has ls 2 [(0, .ref (eA E 0)), (1, .int (nI j))] := hl
  refine lv_iload_n X.x X.b d_X_lackOf_0 rfl (lv_at hl 1 rfl) ?_
  refine lv_iconst (v := nI 0) X.x X.b d_X_lackOf_1 (by decide) ?_
  refine lv_iconst (v := nI 3) X.x X.b d_X_lackOf_2 (by decide) ?_
  refine q_csi X (c_X_within l E S (nI j) (nI 0) (nI 3)) hW ok_X_within mw_209 ⟨by decide, by decide⟩ (As := [.int (nI j), .int (nI 0), .int (nI 3)]) rfl rfl (Nat.le_of_ble_eq_true rfl) (lv := [(0, .ref (eA E 0)), (1, .int (nI j))]) hl ⟨Nat.le_refl 0, Nat.le_refl 0⟩ d_X_lackOf_3 (fun H locs hW => ?_)
  refine lv_if_ne (tgt := 12) X.x X.b d_X_lackOf_6 (by decide) (fun c6 => ?_) (fun c6 => ?_)
  · have c6 := b2i_n c6
    have c6 := (inR_i (by omega) (by decide)).mp c6
    refine lv_aload_n X.x X.b d_X_lackOf_12 rfl (lv_at hl 0 rfl) ?_
    refine q_getr X hW qj3 rfl _ ds_X 5 (by decide) mw_188 rfl (c1 := 60) rfl d_X_lackOf_13 ?_
    refine lv_iload_n X.x X.b d_X_lackOf_16 rfl (lv_at hl 1 rfl) ?_
    refine g_ss X hW (show j < 4 by omega) d_X_lackOf_17 ?_
    refine g_geti X hW qj1 rfl _ (ds_s (j := j) (by omega)) 1 (by decide) mw_173 rfl (r0 := 6 + j) (p0 := 1) rfl (v := β 1) (by rw [hβ]) d_X_lackOf_18 ?_
    refine lv_if_ne (tgt := 29) X.x X.b d_X_lackOf_21 (by decide) (fun c21 => ?_) (fun c21 => ?_)
    · refine lv_iconst (v := nI 0) X.x X.b d_X_lackOf_29 (by decide) ?_
      exact q_zret X rfl hW ⟨rfl, rfl⟩ d_X_lackOf_30
    · exact absurd c21 hb
  · have c6 := b2i_e c6
    have c6 := mt (inR_i (by omega) (by decide)).mpr c6
    omega
set_option maxHeartbeats 1000000 in
set_option maxRecDepth 20000 in
theorem c_X_sheet_0 (l : Launch) (E : QE) (S : QM) (ρ φ : Nat → Int32) (hρ : S 0 = ρ) (hφ : S 14 = φ) (hwf : WF ρ) (j : Nat) (β σ : Nat → Int32) (hj : j < 4) (hβ : S (6 + j) = β) (hσ : S (10 + j) = σ) (n : Nat) (hn : n ≤ 40) : qCI E l y_X_sheet prog_1_method_34_code 5 .int 4 [.ref (eA E 0), .int (nI j), .int (nI 0), .int (nI n)] S (nI 0) (qr (qr S (6 + j) (upd (upd β 1 (nI 0)) 2 (nI 0))) (10 + j) (zer σ)) := by
  refine qCI_of (by decide) (Nat.le_of_ble_eq_true rfl) (fun p e s m below meth c ls X hW hl => ?_)
  have hl : lv_has ls 5 [(0, .ref (eA E 0)), (1, .int (nI j)), (2, .int (nI 0)), (3, .int (nI n))] := hl
  have htl := hwf.tl
  have hwl := hwf.wl
  have hdl := hwf.dl
  refine lv_iload_n X.x X.b d_X_sheet_0 rfl (lv_at hl 2 rfl) ?_
  refine lv_if_eq (tgt := 22) X.x X.b d_X_sheet_1 (by decide) (fun c1 => ?_) (fun c1 => ?_)
  · have c1 : 0 = 0 := (nI_eq (a := 0) (b := 0) (by omega) (by omega)).mp c1
    refine lv_iconst (v := nI 1) X.x X.b d_X_sheet_22 (by decide) ?_
    refine lv_goto (tgt := 27) X.x X.b d_X_sheet_23 (by decide) ?_
    refine lv_istore (lv' := [(4, .int (nI 1)), (0, .ref (eA E 0)), (1, .int (nI j)), (2, .int (nI 0)), (3, .int (nI n))]) X.x X.b d_X_sheet_27 hl (by decide) rfl (fun ls hl => ?_)
    refine lv_iload_n X.x X.b d_X_sheet_29 rfl (lv_at hl 2 rfl) ?_
    refine lv_iconst (v := nI 0) X.x X.b d_X_sheet_30 (by decide) ?_
    refine lv_iconst (v := nI 3) X.x X.b d_X_sheet_31 (by decide) ?_
    refine q_csi X (c_X_within l E S (nI j) (nI 0) (nI 3)) hW ok_X_within mw_209 ⟨by decide, by decide⟩ (As := [.int (nI j), .int (nI 0), .int (nI 3)]) rfl rfl (Nat.le_of_ble_eq_true rfl) (lv := [(4, .int (nI 1)), (0, .ref (eA E 0)), (1, .int (nI j)), (2, .int (nI 0)), (3, .int (nI n))]) hl ⟨Nat.le_refl 0, Nat.le_refl 0⟩ d_X_sheet_32 (fun H locs hW => ?_)
    refine lv_if_eq (tgt := 43) X.x X.b d_X_sheet_35 (by decide) (fun c35 => ?_) (fun c35 => ?_)
    · have c35 := b2i_e c35
      have c35 := mt (inR_i (by omega) (by decide)).mpr c35
      omega
    · have c35 := b2i_n c35
      have c35 := (inR_i (by omega) (by decide)).mp c35
      refine lv_iload X.x X.b d_X_sheet_38 (lv_at hl 0 rfl) ?_
      refine lv_if_ne (tgt := 50) X.x X.b d_X_sheet_40 (by decide) (fun c40 => ?_) (fun c40 => ?_)
      · have c40 : ¬ 1 = 0 := fun z => c40 ((nI_eq (a := 1) (b := 0) (by omega) (by omega)).mpr z)
        refine lv_iload_n X.x X.b d_X_sheet_50 rfl (lv_at hl 4 rfl) ?_
        refine lv_if_ge (tgt := 61) X.x X.b d_X_sheet_51 (by decide) (fun c51 => ?_) (fun c51 => ?_)
        · have c51 : 0 ≤ n := (nI_leI (a := 0) (b := n) (by omega) (by omega)).mp c51
          refine lv_iload_n X.x X.b d_X_sheet_61 rfl (lv_at hl 4 rfl) ?_
          refine lv_bipush (v := nI 40) X.x X.b d_X_sheet_62 (by decide) ?_
          refine lv_icmp_le (tgt := 74) X.x X.b d_X_sheet_64 (by decide) (fun c64 => ?_) (fun c64 => ?_)
          · have c64 : n ≤ 40 := (nI_leI (a := n) (b := 40) (by omega) (by omega)).mp c64
            refine lv_aload_n X.x X.b d_X_sheet_74 rfl (lv_at hl 1 rfl) ?_
            refine q_getr X hW qj3 rfl _ ds_X 5 (by decide) mw_188 rfl (c1 := 60) rfl d_X_sheet_75 ?_
            refine lv_iload_n X.x X.b d_X_sheet_78 rfl (lv_at hl 2 rfl) ?_
            refine g_ss X hW (show j < 4 by omega) d_X_sheet_79 ?_
            refine lv_iload_n X.x X.b d_X_sheet_80 rfl (lv_at hl 3 rfl) ?_
            refine lv_iload_n X.x X.b d_X_sheet_81 rfl (lv_at hl 3 rfl) ?_
            refine lv_if_ne (tgt := 89) X.x X.b d_X_sheet_82 (by decide) (fun c82 => ?_) (fun c82 => ?_)
            · exact absurd (by decide) c82
            · have c82 : 0 = 0 := (nI_eq (a := 0) (b := 0) (by omega) (by omega)).mp c82
              refine lv_iconst (v := nI 0) X.x X.b d_X_sheet_85 (by decide) ?_
              refine lv_goto (tgt := 90) X.x X.b d_X_sheet_86 (by decide) ?_
              refine q_cvv X (c_Sh_begin l E S j β σ (by omega) (by rw [hβ]) (by rw [hσ]) (nI 0) (nI 0)) hW (q_recv X hW (ds_s (j := j) (by omega)) rfl) ok_Sh_begin mw_617 ⟨by decide, by decide⟩ (As := [.int (nI 0), .int (nI 0)]) rfl rfl (Nat.le_of_ble_eq_true rfl) (lv := [(4, .int (nI 1)), (0, .ref (eA E 0)), (1, .int (nI j)), (2, .int (nI 0)), (3, .int (nI n))]) hl ⟨Nat.le_refl 0, Nat.le_refl 0⟩ d_X_sheet_90 (fun H locs hW => ?_)
              have hW : qWH E (qr (qr S (6 + j) (upd (upd β 1 (nI 0)) 2 (nI 0))) (10 + j) (zer σ)) s H locs := hW
              refine lv_aload_n X.x X.b d_X_sheet_93 rfl (lv_at hl 1 rfl) ?_
              refine q_getr X hW qj3 rfl _ ds_X 5 (by decide) mw_188 rfl (c1 := 60) rfl d_X_sheet_94 ?_
              refine lv_iload_n X.x X.b d_X_sheet_97 rfl (lv_at hl 2 rfl) ?_
              refine g_ss X hW (show j < 4 by omega) d_X_sheet_98 ?_
              refine g_geti X hW qj1 rfl _ (ds_s (j := j) (by omega)) 2 (by decide) mw_175 rfl (r0 := 6 + j) (p0 := 2) rfl (v := (upd (upd β 1 (nI 0)) 2 (nI 0)) 2) (by rw [qr_ne (by omega), qr_at]) d_X_sheet_99 ?_
              exact q_zret X rfl hW ⟨by rw [upd_at], rfl⟩ d_X_sheet_102
          · have c64 : ¬ n ≤ 40 := fun z => c64 ((nI_leI (a := n) (b := 40) (by omega) (by omega)).mpr z)
            omega
        · have c51 : ¬ 0 ≤ n := fun z => c51 ((nI_leI (a := 0) (b := n) (by omega) (by omega)).mpr z)
          omega
      · exact absurd c40 (by decide)
  · exact absurd (by decide) c1
set_option maxHeartbeats 1000000 in
set_option maxRecDepth 20000 in
theorem c_X_sheet_n0 (l : Launch) (E : QE) (S : QM) (ρ φ : Nat → Int32) (hρ : S 0 = ρ) (hφ : S 14 = φ) (hwf : WF ρ) (j : Nat) (hj : j < 4) (n : Int32) (hn : n < 0) : qCI E l y_X_sheet prog_1_method_34_code 5 .int 3 [.ref (eA E 0), .int (nI j), .int (nI 0), .int n] S (-1000007) (qr S 14 (fnS φ 6)) := by
  refine qCI_of (by decide) (Nat.le_of_ble_eq_true rfl) (fun p e s m below meth c ls X hW hl => ?_)
  have hl : lv_has ls 5 [(0, .ref (eA E 0)), (1, .int (nI j)), (2, .int (nI 0)), (3, .int n)] := hl
  have htl := hwf.tl
  have hwl := hwf.wl
  have hdl := hwf.dl
  refine lv_iload_n X.x X.b d_X_sheet_0 rfl (lv_at hl 2 rfl) ?_
  refine lv_if_eq (tgt := 22) X.x X.b d_X_sheet_1 (by decide) (fun c1 => ?_) (fun c1 => ?_)
  · have c1 : 0 = 0 := (nI_eq (a := 0) (b := 0) (by omega) (by omega)).mp c1
    refine lv_iconst (v := nI 1) X.x X.b d_X_sheet_22 (by decide) ?_
    refine lv_goto (tgt := 27) X.x X.b d_X_sheet_23 (by decide) ?_
    refine lv_istore (lv' := [(4, .int (nI 1)), (0, .ref (eA E 0)), (1, .int (nI j)), (2, .int (nI 0)), (3, .int n)]) X.x X.b d_X_sheet_27 hl (by decide) rfl (fun ls hl => ?_)
    refine lv_iload_n X.x X.b d_X_sheet_29 rfl (lv_at hl 2 rfl) ?_
    refine lv_iconst (v := nI 0) X.x X.b d_X_sheet_30 (by decide) ?_
    refine lv_iconst (v := nI 3) X.x X.b d_X_sheet_31 (by decide) ?_
    refine q_csi X (c_X_within l E S (nI j) (nI 0) (nI 3)) hW ok_X_within mw_209 ⟨by decide, by decide⟩ (As := [.int (nI j), .int (nI 0), .int (nI 3)]) rfl rfl (Nat.le_of_ble_eq_true rfl) (lv := [(4, .int (nI 1)), (0, .ref (eA E 0)), (1, .int (nI j)), (2, .int (nI 0)), (3, .int n)]) hl ⟨Nat.le_refl 0, Nat.le_refl 0⟩ d_X_sheet_32 (fun H locs hW => ?_)
    refine lv_if_eq (tgt := 43) X.x X.b d_X_sheet_35 (by decide) (fun c35 => ?_) (fun c35 => ?_)
    · have c35 := b2i_e c35
      have c35 := mt (inR_i (by omega) (by decide)).mpr c35
      omega
    · have c35 := b2i_n c35
      have c35 := (inR_i (by omega) (by decide)).mp c35
      refine lv_iload X.x X.b d_X_sheet_38 (lv_at hl 0 rfl) ?_
      refine lv_if_ne (tgt := 50) X.x X.b d_X_sheet_40 (by decide) (fun c40 => ?_) (fun c40 => ?_)
      · have c40 : ¬ 1 = 0 := fun z => c40 ((nI_eq (a := 1) (b := 0) (by omega) (by omega)).mpr z)
        refine lv_iload_n X.x X.b d_X_sheet_50 rfl (lv_at hl 4 rfl) ?_
        refine lv_if_ge (tgt := 61) X.x X.b d_X_sheet_51 (by decide) (fun c51 => ?_) (fun c51 => ?_)
        · exact absurd hn (Int32.not_lt.mpr c51)
        · refine lv_aload_n X.x X.b d_X_sheet_54 rfl (lv_at hl 1 rfl) ?_
          refine lv_ldc (v := (-1000007)) X.x X.b X.ow (X.ts _ mw_616) d_X_sheet_55 ?_
          refine q_cvi X (c_X_told_6 l E S φ (by rw [hφ])) hW (q_recv X hW ds_X rfl) ok_X_told mw_213 ⟨by decide, by decide⟩ (As := [.int (-1000007)]) rfl rfl (Nat.le_of_ble_eq_true rfl) (lv := [(4, .int (nI 1)), (0, .ref (eA E 0)), (1, .int (nI j)), (2, .int (nI 0)), (3, .int n)]) hl ⟨Nat.le_refl 0, Nat.le_refl 0⟩ d_X_sheet_57 (fun H locs hW => ?_)
          have hW : qWH E (qr S 14 (fnS φ 6)) s H locs := hW
          exact q_zret X rfl hW ⟨rfl, rfl⟩ d_X_sheet_60
      · exact absurd c40 (by decide)
  · exact absurd (by decide) c1
set_option maxHeartbeats 1000000 in
set_option maxRecDepth 20000 in
theorem c_X_sheet_m0 (l : Launch) (E : QE) (S : QM) (ρ φ : Nat → Int32) (hρ : S 0 = ρ) (hφ : S 14 = φ) (hwf : WF ρ) (j : Nat) (hj : j < 4) (n : Int32) (hn : ¬ n < 0) (hm : ¬ n ≤ nI 40) : qCI E l y_X_sheet prog_1_method_34_code 5 .int 3 [.ref (eA E 0), .int (nI j), .int (nI 0), .int n] S (-1000001) (qr S 14 (fnS φ 0)) := by
  refine qCI_of (by decide) (Nat.le_of_ble_eq_true rfl) (fun p e s m below meth c ls X hW hl => ?_)
  have hl : lv_has ls 5 [(0, .ref (eA E 0)), (1, .int (nI j)), (2, .int (nI 0)), (3, .int n)] := hl
  have htl := hwf.tl
  have hwl := hwf.wl
  have hdl := hwf.dl
  refine lv_iload_n X.x X.b d_X_sheet_0 rfl (lv_at hl 2 rfl) ?_
  refine lv_if_eq (tgt := 22) X.x X.b d_X_sheet_1 (by decide) (fun c1 => ?_) (fun c1 => ?_)
  · have c1 : 0 = 0 := (nI_eq (a := 0) (b := 0) (by omega) (by omega)).mp c1
    refine lv_iconst (v := nI 1) X.x X.b d_X_sheet_22 (by decide) ?_
    refine lv_goto (tgt := 27) X.x X.b d_X_sheet_23 (by decide) ?_
    refine lv_istore (lv' := [(4, .int (nI 1)), (0, .ref (eA E 0)), (1, .int (nI j)), (2, .int (nI 0)), (3, .int n)]) X.x X.b d_X_sheet_27 hl (by decide) rfl (fun ls hl => ?_)
    refine lv_iload_n X.x X.b d_X_sheet_29 rfl (lv_at hl 2 rfl) ?_
    refine lv_iconst (v := nI 0) X.x X.b d_X_sheet_30 (by decide) ?_
    refine lv_iconst (v := nI 3) X.x X.b d_X_sheet_31 (by decide) ?_
    refine q_csi X (c_X_within l E S (nI j) (nI 0) (nI 3)) hW ok_X_within mw_209 ⟨by decide, by decide⟩ (As := [.int (nI j), .int (nI 0), .int (nI 3)]) rfl rfl (Nat.le_of_ble_eq_true rfl) (lv := [(4, .int (nI 1)), (0, .ref (eA E 0)), (1, .int (nI j)), (2, .int (nI 0)), (3, .int n)]) hl ⟨Nat.le_refl 0, Nat.le_refl 0⟩ d_X_sheet_32 (fun H locs hW => ?_)
    refine lv_if_eq (tgt := 43) X.x X.b d_X_sheet_35 (by decide) (fun c35 => ?_) (fun c35 => ?_)
    · have c35 := b2i_e c35
      have c35 := mt (inR_i (by omega) (by decide)).mpr c35
      omega
    · have c35 := b2i_n c35
      have c35 := (inR_i (by omega) (by decide)).mp c35
      refine lv_iload X.x X.b d_X_sheet_38 (lv_at hl 0 rfl) ?_
      refine lv_if_ne (tgt := 50) X.x X.b d_X_sheet_40 (by decide) (fun c40 => ?_) (fun c40 => ?_)
      · have c40 : ¬ 1 = 0 := fun z => c40 ((nI_eq (a := 1) (b := 0) (by omega) (by omega)).mpr z)
        refine lv_iload_n X.x X.b d_X_sheet_50 rfl (lv_at hl 4 rfl) ?_
        refine lv_if_ge (tgt := 61) X.x X.b d_X_sheet_51 (by decide) (fun c51 => ?_) (fun c51 => ?_)
        · refine lv_iload_n X.x X.b d_X_sheet_61 rfl (lv_at hl 4 rfl) ?_
          refine lv_bipush (v := nI 40) X.x X.b d_X_sheet_62 (by decide) ?_
          refine lv_icmp_le (tgt := 74) X.x X.b d_X_sheet_64 (by decide) (fun c64 => ?_) (fun c64 => ?_)
          · exact absurd c64 hm
          · refine lv_aload_n X.x X.b d_X_sheet_67 rfl (lv_at hl 1 rfl) ?_
            refine lv_ldc (v := (-1000001)) X.x X.b X.ow (X.ts _ mw_212) d_X_sheet_68 ?_
            refine q_cvi X (c_X_told_0 l E S φ (by rw [hφ])) hW (q_recv X hW ds_X rfl) ok_X_told mw_213 ⟨by decide, by decide⟩ (As := [.int (-1000001)]) rfl rfl (Nat.le_of_ble_eq_true rfl) (lv := [(4, .int (nI 1)), (0, .ref (eA E 0)), (1, .int (nI j)), (2, .int (nI 0)), (3, .int n)]) hl ⟨Nat.le_refl 0, Nat.le_refl 0⟩ d_X_sheet_70 (fun H locs hW => ?_)
            have hW : qWH E (qr S 14 (fnS φ 0)) s H locs := hW
            exact q_zret X rfl hW ⟨rfl, rfl⟩ d_X_sheet_73
        · exact absurd (Int32.not_lt.mp hn) c51
      · exact absurd c40 (by decide)
  · exact absurd (by decide) c1
set_option maxHeartbeats 1000000 in
set_option maxRecDepth 20000 in
theorem c_X_sheet_8 (l : Launch) (E : QE) (S : QM) (ρ φ : Nat → Int32) (hρ : S 0 = ρ) (hφ : S 14 = φ) (hwf : WF ρ) (j : Nat) (β σ : Nat → Int32) (hj : j < 4) (hβ : S (6 + j) = β) (hσ : S (10 + j) = σ) (n : Nat) (hn : n ≤ 40) : qCI E l y_X_sheet prog_1_method_34_code 5 .int 4 [.ref (eA E 0), .int (nI j), .int (nI 8), .int (nI n)] S (nI n) (qr (qr S (6 + j) (upd (upd β 1 (nI 8)) 2 (nI n))) (10 + j) (zer σ)) := by
  refine qCI_of (by decide) (Nat.le_of_ble_eq_true rfl) (fun p e s m below meth c ls X hW hl => ?_)
  have hl : lv_has ls 5 [(0, .ref (eA E 0)), (1, .int (nI j)), (2, .int (nI 8)), (3, .int (nI n))] := hl
  have htl := hwf.tl
  have hwl := hwf.wl
  have hdl := hwf.dl
  refine lv_iload_n X.x X.b d_X_sheet_0 rfl (lv_at hl 2 rfl) ?_
  refine lv_if_eq (tgt := 22) X.x X.b d_X_sheet_1 (by decide) (fun c1 => ?_) (fun c1 => ?_)
  · exact absurd c1 (by decide)
  · have c1 : ¬ 8 = 0 := fun z => c1 ((nI_eq (a := 8) (b := 0) (by omega) (by omega)).mpr z)
    refine lv_iload_n X.x X.b d_X_sheet_4 rfl (lv_at hl 2 rfl) ?_
    refine lv_bipush (v := nI 8) X.x X.b d_X_sheet_5 (by decide) ?_
    refine lv_icmp_eq (tgt := 22) X.x X.b d_X_sheet_7 (by decide) (fun c7 => ?_) (fun c7 => ?_)
    · have c7 : 8 = 8 := (nI_eq (a := 8) (b := 8) (by omega) (by omega)).mp c7
      refine lv_iconst (v := nI 1) X.x X.b d_X_sheet_22 (by decide) ?_
      refine lv_goto (tgt := 27) X.x X.b d_X_sheet_23 (by decide) ?_
      refine lv_istore (lv' := [(4, .int (nI 1)), (0, .ref (eA E 0)), (1, .int (nI j)), (2, .int (nI 8)), (3, .int (nI n))]) X.x X.b d_X_sheet_27 hl (by decide) rfl (fun ls hl => ?_)
      refine lv_iload_n X.x X.b d_X_sheet_29 rfl (lv_at hl 2 rfl) ?_
      refine lv_iconst (v := nI 0) X.x X.b d_X_sheet_30 (by decide) ?_
      refine lv_iconst (v := nI 3) X.x X.b d_X_sheet_31 (by decide) ?_
      refine q_csi X (c_X_within l E S (nI j) (nI 0) (nI 3)) hW ok_X_within mw_209 ⟨by decide, by decide⟩ (As := [.int (nI j), .int (nI 0), .int (nI 3)]) rfl rfl (Nat.le_of_ble_eq_true rfl) (lv := [(4, .int (nI 1)), (0, .ref (eA E 0)), (1, .int (nI j)), (2, .int (nI 8)), (3, .int (nI n))]) hl ⟨Nat.le_refl 0, Nat.le_refl 0⟩ d_X_sheet_32 (fun H locs hW => ?_)
      refine lv_if_eq (tgt := 43) X.x X.b d_X_sheet_35 (by decide) (fun c35 => ?_) (fun c35 => ?_)
      · have c35 := b2i_e c35
        have c35 := mt (inR_i (by omega) (by decide)).mpr c35
        omega
      · have c35 := b2i_n c35
        have c35 := (inR_i (by omega) (by decide)).mp c35
        refine lv_iload X.x X.b d_X_sheet_38 (lv_at hl 0 rfl) ?_
        refine lv_if_ne (tgt := 50) X.x X.b d_X_sheet_40 (by decide) (fun c40 => ?_) (fun c40 => ?_)
        · have c40 : ¬ 1 = 0 := fun z => c40 ((nI_eq (a := 1) (b := 0) (by omega) (by omega)).mpr z)
          refine lv_iload_n X.x X.b d_X_sheet_50 rfl (lv_at hl 4 rfl) ?_
          refine lv_if_ge (tgt := 61) X.x X.b d_X_sheet_51 (by decide) (fun c51 => ?_) (fun c51 => ?_)
          · have c51 : 0 ≤ n := (nI_leI (a := 0) (b := n) (by omega) (by omega)).mp c51
            refine lv_iload_n X.x X.b d_X_sheet_61 rfl (lv_at hl 4 rfl) ?_
            refine lv_bipush (v := nI 40) X.x X.b d_X_sheet_62 (by decide) ?_
            refine lv_icmp_le (tgt := 74) X.x X.b d_X_sheet_64 (by decide) (fun c64 => ?_) (fun c64 => ?_)
            · have c64 : n ≤ 40 := (nI_leI (a := n) (b := 40) (by omega) (by omega)).mp c64
              refine lv_aload_n X.x X.b d_X_sheet_74 rfl (lv_at hl 1 rfl) ?_
              refine q_getr X hW qj3 rfl _ ds_X 5 (by decide) mw_188 rfl (c1 := 60) rfl d_X_sheet_75 ?_
              refine lv_iload_n X.x X.b d_X_sheet_78 rfl (lv_at hl 2 rfl) ?_
              refine g_ss X hW (show j < 4 by omega) d_X_sheet_79 ?_
              refine lv_iload_n X.x X.b d_X_sheet_80 rfl (lv_at hl 3 rfl) ?_
              refine lv_iload_n X.x X.b d_X_sheet_81 rfl (lv_at hl 3 rfl) ?_
              refine lv_if_ne (tgt := 89) X.x X.b d_X_sheet_82 (by decide) (fun c82 => ?_) (fun c82 => ?_)
              · have c82 : ¬ 8 = 0 := fun z => c82 ((nI_eq (a := 8) (b := 0) (by omega) (by omega)).mpr z)
                refine lv_iload_n X.x X.b d_X_sheet_89 rfl (lv_at hl 4 rfl) ?_
                refine q_cvv X (c_Sh_begin l E S j β σ (by omega) (by rw [hβ]) (by rw [hσ]) (nI 8) (nI n)) hW (q_recv X hW (ds_s (j := j) (by omega)) rfl) ok_Sh_begin mw_617 ⟨by decide, by decide⟩ (As := [.int (nI 8), .int (nI n)]) rfl rfl (Nat.le_of_ble_eq_true rfl) (lv := [(4, .int (nI 1)), (0, .ref (eA E 0)), (1, .int (nI j)), (2, .int (nI 8)), (3, .int (nI n))]) hl ⟨Nat.le_refl 0, Nat.le_refl 0⟩ d_X_sheet_90 (fun H locs hW => ?_)
                have hW : qWH E (qr (qr S (6 + j) (upd (upd β 1 (nI 8)) 2 (nI n))) (10 + j) (zer σ)) s H locs := hW
                refine lv_aload_n X.x X.b d_X_sheet_93 rfl (lv_at hl 1 rfl) ?_
                refine q_getr X hW qj3 rfl _ ds_X 5 (by decide) mw_188 rfl (c1 := 60) rfl d_X_sheet_94 ?_
                refine lv_iload_n X.x X.b d_X_sheet_97 rfl (lv_at hl 2 rfl) ?_
                refine g_ss X hW (show j < 4 by omega) d_X_sheet_98 ?_
                refine g_geti X hW qj1 rfl _ (ds_s (j := j) (by omega)) 2 (by decide) mw_175 rfl (r0 := 6 + j) (p0 := 2) rfl (v := (upd (upd β 1 (nI 8)) 2 (nI n)) 2) (by rw [qr_ne (by omega), qr_at]) d_X_sheet_99 ?_
                exact q_zret X rfl hW ⟨by rw [upd_at], rfl⟩ d_X_sheet_102
              · exact absurd c82 (by decide)
            · have c64 : ¬ n ≤ 40 := fun z => c64 ((nI_leI (a := n) (b := 40) (by omega) (by omega)).mpr z)
              omega
          · have c51 : ¬ 0 ≤ n := fun z => c51 ((nI_leI (a := 0) (b := n) (by omega) (by omega)).mpr z)
            omega
        · exact absurd c40 (by decide)
    · exact absurd (by decide) c7
set_option maxHeartbeats 1000000 in
set_option maxRecDepth 20000 in
theorem c_X_sheet_n8 (l : Launch) (E : QE) (S : QM) (ρ φ : Nat → Int32) (hρ : S 0 = ρ) (hφ : S 14 = φ) (hwf : WF ρ) (j : Nat) (hj : j < 4) (n : Int32) (hn : n < 0) : qCI E l y_X_sheet prog_1_method_34_code 5 .int 3 [.ref (eA E 0), .int (nI j), .int (nI 8), .int n] S (-1000007) (qr S 14 (fnS φ 6)) := by
  refine qCI_of (by decide) (Nat.le_of_ble_eq_true rfl) (fun p e s m below meth c ls X hW hl => ?_)
  have hl : lv_has ls 5 [(0, .ref (eA E 0)), (1, .int (nI j)), (2, .int (nI 8)), (3, .int n)] := hl
  have htl := hwf.tl
  have hwl := hwf.wl
  have hdl := hwf.dl
  refine lv_iload_n X.x X.b d_X_sheet_0 rfl (lv_at hl 2 rfl) ?_
  refine lv_if_eq (tgt := 22) X.x X.b d_X_sheet_1 (by decide) (fun c1 => ?_) (fun c1 => ?_)
  · exact absurd c1 (by decide)
  · have c1 : ¬ 8 = 0 := fun z => c1 ((nI_eq (a := 8) (b := 0) (by omega) (by omega)).mpr z)
    refine lv_iload_n X.x X.b d_X_sheet_4 rfl (lv_at hl 2 rfl) ?_
    refine lv_bipush (v := nI 8) X.x X.b d_X_sheet_5 (by decide) ?_
    refine lv_icmp_eq (tgt := 22) X.x X.b d_X_sheet_7 (by decide) (fun c7 => ?_) (fun c7 => ?_)
    · have c7 : 8 = 8 := (nI_eq (a := 8) (b := 8) (by omega) (by omega)).mp c7
      refine lv_iconst (v := nI 1) X.x X.b d_X_sheet_22 (by decide) ?_
      refine lv_goto (tgt := 27) X.x X.b d_X_sheet_23 (by decide) ?_
      refine lv_istore (lv' := [(4, .int (nI 1)), (0, .ref (eA E 0)), (1, .int (nI j)), (2, .int (nI 8)), (3, .int n)]) X.x X.b d_X_sheet_27 hl (by decide) rfl (fun ls hl => ?_)
      refine lv_iload_n X.x X.b d_X_sheet_29 rfl (lv_at hl 2 rfl) ?_
      refine lv_iconst (v := nI 0) X.x X.b d_X_sheet_30 (by decide) ?_
      refine lv_iconst (v := nI 3) X.x X.b d_X_sheet_31 (by decide) ?_
      refine q_csi X (c_X_within l E S (nI j) (nI 0) (nI 3)) hW ok_X_within mw_209 ⟨by decide, by decide⟩ (As := [.int (nI j), .int (nI 0), .int (nI 3)]) rfl rfl (Nat.le_of_ble_eq_true rfl) (lv := [(4, .int (nI 1)), (0, .ref (eA E 0)), (1, .int (nI j)), (2, .int (nI 8)), (3, .int n)]) hl ⟨Nat.le_refl 0, Nat.le_refl 0⟩ d_X_sheet_32 (fun H locs hW => ?_)
      refine lv_if_eq (tgt := 43) X.x X.b d_X_sheet_35 (by decide) (fun c35 => ?_) (fun c35 => ?_)
      · have c35 := b2i_e c35
        have c35 := mt (inR_i (by omega) (by decide)).mpr c35
        omega
      · have c35 := b2i_n c35
        have c35 := (inR_i (by omega) (by decide)).mp c35
        refine lv_iload X.x X.b d_X_sheet_38 (lv_at hl 0 rfl) ?_
        refine lv_if_ne (tgt := 50) X.x X.b d_X_sheet_40 (by decide) (fun c40 => ?_) (fun c40 => ?_)
        · have c40 : ¬ 1 = 0 := fun z => c40 ((nI_eq (a := 1) (b := 0) (by omega) (by omega)).mpr z)
          refine lv_iload_n X.x X.b d_X_sheet_50 rfl (lv_at hl 4 rfl) ?_
          refine lv_if_ge (tgt := 61) X.x X.b d_X_sheet_51 (by decide) (fun c51 => ?_) (fun c51 => ?_)
          · exact absurd hn (Int32.not_lt.mpr c51)
          · refine lv_aload_n X.x X.b d_X_sheet_54 rfl (lv_at hl 1 rfl) ?_
            refine lv_ldc (v := (-1000007)) X.x X.b X.ow (X.ts _ mw_616) d_X_sheet_55 ?_
            refine q_cvi X (c_X_told_6 l E S φ (by rw [hφ])) hW (q_recv X hW ds_X rfl) ok_X_told mw_213 ⟨by decide, by decide⟩ (As := [.int (-1000007)]) rfl rfl (Nat.le_of_ble_eq_true rfl) (lv := [(4, .int (nI 1)), (0, .ref (eA E 0)), (1, .int (nI j)), (2, .int (nI 8)), (3, .int n)]) hl ⟨Nat.le_refl 0, Nat.le_refl 0⟩ d_X_sheet_57 (fun H locs hW => ?_)
            have hW : qWH E (qr S 14 (fnS φ 6)) s H locs := hW
            exact q_zret X rfl hW ⟨rfl, rfl⟩ d_X_sheet_60
        · exact absurd c40 (by decide)
    · exact absurd (by decide) c7
set_option maxHeartbeats 1000000 in
set_option maxRecDepth 20000 in
theorem c_X_sheet_m8 (l : Launch) (E : QE) (S : QM) (ρ φ : Nat → Int32) (hρ : S 0 = ρ) (hφ : S 14 = φ) (hwf : WF ρ) (j : Nat) (hj : j < 4) (n : Int32) (hn : ¬ n < 0) (hm : ¬ n ≤ nI 40) : qCI E l y_X_sheet prog_1_method_34_code 5 .int 3 [.ref (eA E 0), .int (nI j), .int (nI 8), .int n] S (-1000001) (qr S 14 (fnS φ 0)) := by
  refine qCI_of (by decide) (Nat.le_of_ble_eq_true rfl) (fun p e s m below meth c ls X hW hl => ?_)
  have hl : lv_has ls 5 [(0, .ref (eA E 0)), (1, .int (nI j)), (2, .int (nI 8)), (3, .int n)] := hl
  have htl := hwf.tl
  have hwl := hwf.wl
  have hdl := hwf.dl
  refine lv_iload_n X.x X.b d_X_sheet_0 rfl (lv_at hl 2 rfl) ?_
  refine lv_if_eq (tgt := 22) X.x X.b d_X_sheet_1 (by decide) (fun c1 => ?_) (fun c1 => ?_)
  · exact absurd c1 (by decide)
  · have c1 : ¬ 8 = 0 := fun z => c1 ((nI_eq (a := 8) (b := 0) (by omega) (by omega)).mpr z)
    refine lv_iload_n X.x X.b d_X_sheet_4 rfl (lv_at hl 2 rfl) ?_
    refine lv_bipush (v := nI 8) X.x X.b d_X_sheet_5 (by decide) ?_
    refine lv_icmp_eq (tgt := 22) X.x X.b d_X_sheet_7 (by decide) (fun c7 => ?_) (fun c7 => ?_)
    · have c7 : 8 = 8 := (nI_eq (a := 8) (b := 8) (by omega) (by omega)).mp c7
      refine lv_iconst (v := nI 1) X.x X.b d_X_sheet_22 (by decide) ?_
      refine lv_goto (tgt := 27) X.x X.b d_X_sheet_23 (by decide) ?_
      refine lv_istore (lv' := [(4, .int (nI 1)), (0, .ref (eA E 0)), (1, .int (nI j)), (2, .int (nI 8)), (3, .int n)]) X.x X.b d_X_sheet_27 hl (by decide) rfl (fun ls hl => ?_)
      refine lv_iload_n X.x X.b d_X_sheet_29 rfl (lv_at hl 2 rfl) ?_
      refine lv_iconst (v := nI 0) X.x X.b d_X_sheet_30 (by decide) ?_
      refine lv_iconst (v := nI 3) X.x X.b d_X_sheet_31 (by decide) ?_
      refine q_csi X (c_X_within l E S (nI j) (nI 0) (nI 3)) hW ok_X_within mw_209 ⟨by decide, by decide⟩ (As := [.int (nI j), .int (nI 0), .int (nI 3)]) rfl rfl (Nat.le_of_ble_eq_true rfl) (lv := [(4, .int (nI 1)), (0, .ref (eA E 0)), (1, .int (nI j)), (2, .int (nI 8)), (3, .int n)]) hl ⟨Nat.le_refl 0, Nat.le_refl 0⟩ d_X_sheet_32 (fun H locs hW => ?_)
      refine lv_if_eq (tgt := 43) X.x X.b d_X_sheet_35 (by decide) (fun c35 => ?_) (fun c35 => ?_)
      · have c35 := b2i_e c35
        have c35 := mt (inR_i (by omega) (by decide)).mpr c35
        omega
      · have c35 := b2i_n c35
        have c35 := (inR_i (by omega) (by decide)).mp c35
        refine lv_iload X.x X.b d_X_sheet_38 (lv_at hl 0 rfl) ?_
        refine lv_if_ne (tgt := 50) X.x X.b d_X_sheet_40 (by decide) (fun c40 => ?_) (fun c40 => ?_)
        · have c40 : ¬ 1 = 0 := fun z => c40 ((nI_eq (a := 1) (b := 0) (by omega) (by omega)).mpr z)
          refine lv_iload_n X.x X.b d_X_sheet_50 rfl (lv_at hl 4 rfl) ?_
          refine lv_if_ge (tgt := 61) X.x X.b d_X_sheet_51 (by decide) (fun c51 => ?_) (fun c51 => ?_)
          · refine lv_iload_n X.x X.b d_X_sheet_61 rfl (lv_at hl 4 rfl) ?_
            refine lv_bipush (v := nI 40) X.x X.b d_X_sheet_62 (by decide) ?_
            refine lv_icmp_le (tgt := 74) X.x X.b d_X_sheet_64 (by decide) (fun c64 => ?_) (fun c64 => ?_)
            · exact absurd c64 hm
            · refine lv_aload_n X.x X.b d_X_sheet_67 rfl (lv_at hl 1 rfl) ?_
              refine lv_ldc (v := (-1000001)) X.x X.b X.ow (X.ts _ mw_212) d_X_sheet_68 ?_
              refine q_cvi X (c_X_told_0 l E S φ (by rw [hφ])) hW (q_recv X hW ds_X rfl) ok_X_told mw_213 ⟨by decide, by decide⟩ (As := [.int (-1000001)]) rfl rfl (Nat.le_of_ble_eq_true rfl) (lv := [(4, .int (nI 1)), (0, .ref (eA E 0)), (1, .int (nI j)), (2, .int (nI 8)), (3, .int n)]) hl ⟨Nat.le_refl 0, Nat.le_refl 0⟩ d_X_sheet_70 (fun H locs hW => ?_)
              have hW : qWH E (qr S 14 (fnS φ 0)) s H locs := hW
              exact q_zret X rfl hW ⟨rfl, rfl⟩ d_X_sheet_73
          · exact absurd (Int32.not_lt.mp hn) c51
        · exact absurd c40 (by decide)
    · exact absurd (by decide) c7
set_option maxHeartbeats 1000000 in
set_option maxRecDepth 20000 in
theorem c_X_sheet_16 (l : Launch) (E : QE) (S : QM) (ρ φ : Nat → Int32) (hρ : S 0 = ρ) (hφ : S 14 = φ) (hwf : WF ρ) (j : Nat) (β σ : Nat → Int32) (hj : j < 4) (hβ : S (6 + j) = β) (hσ : S (10 + j) = σ) (n : Nat) (hn : n ≤ 40) : qCI E l y_X_sheet prog_1_method_34_code 5 .int 4 [.ref (eA E 0), .int (nI j), .int (nI 16), .int (nI n)] S (nI n) (qr (qr S (6 + j) (upd (upd β 1 (nI 16)) 2 (nI n))) (10 + j) (zer σ)) := by
  refine qCI_of (by decide) (Nat.le_of_ble_eq_true rfl) (fun p e s m below meth c ls X hW hl => ?_)
  have hl : lv_has ls 5 [(0, .ref (eA E 0)), (1, .int (nI j)), (2, .int (nI 16)), (3, .int (nI n))] := hl
  have htl := hwf.tl
  have hwl := hwf.wl
  have hdl := hwf.dl
  refine lv_iload_n X.x X.b d_X_sheet_0 rfl (lv_at hl 2 rfl) ?_
  refine lv_if_eq (tgt := 22) X.x X.b d_X_sheet_1 (by decide) (fun c1 => ?_) (fun c1 => ?_)
  · exact absurd c1 (by decide)
  · have c1 : ¬ 16 = 0 := fun z => c1 ((nI_eq (a := 16) (b := 0) (by omega) (by omega)).mpr z)
    refine lv_iload_n X.x X.b d_X_sheet_4 rfl (lv_at hl 2 rfl) ?_
    refine lv_bipush (v := nI 8) X.x X.b d_X_sheet_5 (by decide) ?_
    refine lv_icmp_eq (tgt := 22) X.x X.b d_X_sheet_7 (by decide) (fun c7 => ?_) (fun c7 => ?_)
    · exact absurd c7 (by decide)
    · have c7 : ¬ 16 = 8 := fun z => c7 ((nI_eq (a := 16) (b := 8) (by omega) (by omega)).mpr z)
      refine lv_iload_n X.x X.b d_X_sheet_10 rfl (lv_at hl 2 rfl) ?_
      refine lv_bipush (v := nI 16) X.x X.b d_X_sheet_11 (by decide) ?_
      refine lv_icmp_eq (tgt := 22) X.x X.b d_X_sheet_13 (by decide) (fun c13 => ?_) (fun c13 => ?_)
      · have c13 : 16 = 16 := (nI_eq (a := 16) (b := 16) (by omega) (by omega)).mp c13
        refine lv_iconst (v := nI 1) X.x X.b d_X_sheet_22 (by decide) ?_
        refine lv_goto (tgt := 27) X.x X.b d_X_sheet_23 (by decide) ?_
        refine lv_istore (lv' := [(4, .int (nI 1)), (0, .ref (eA E 0)), (1, .int (nI j)), (2, .int (nI 16)), (3, .int (nI n))]) X.x X.b d_X_sheet_27 hl (by decide) rfl (fun ls hl => ?_)
        refine lv_iload_n X.x X.b d_X_sheet_29 rfl (lv_at hl 2 rfl) ?_
        refine lv_iconst (v := nI 0) X.x X.b d_X_sheet_30 (by decide) ?_
        refine lv_iconst (v := nI 3) X.x X.b d_X_sheet_31 (by decide) ?_
        refine q_csi X (c_X_within l E S (nI j) (nI 0) (nI 3)) hW ok_X_within mw_209 ⟨by decide, by decide⟩ (As := [.int (nI j), .int (nI 0), .int (nI 3)]) rfl rfl (Nat.le_of_ble_eq_true rfl) (lv := [(4, .int (nI 1)), (0, .ref (eA E 0)), (1, .int (nI j)), (2, .int (nI 16)), (3, .int (nI n))]) hl ⟨Nat.le_refl 0, Nat.le_refl 0⟩ d_X_sheet_32 (fun H locs hW => ?_)
        refine lv_if_eq (tgt := 43) X.x X.b d_X_sheet_35 (by decide) (fun c35 => ?_) (fun c35 => ?_)
        · have c35 := b2i_e c35
          have c35 := mt (inR_i (by omega) (by decide)).mpr c35
          omega
        · have c35 := b2i_n c35
          have c35 := (inR_i (by omega) (by decide)).mp c35
          refine lv_iload X.x X.b d_X_sheet_38 (lv_at hl 0 rfl) ?_
          refine lv_if_ne (tgt := 50) X.x X.b d_X_sheet_40 (by decide) (fun c40 => ?_) (fun c40 => ?_)
          · have c40 : ¬ 1 = 0 := fun z => c40 ((nI_eq (a := 1) (b := 0) (by omega) (by omega)).mpr z)
            refine lv_iload_n X.x X.b d_X_sheet_50 rfl (lv_at hl 4 rfl) ?_
            refine lv_if_ge (tgt := 61) X.x X.b d_X_sheet_51 (by decide) (fun c51 => ?_) (fun c51 => ?_)
            · have c51 : 0 ≤ n := (nI_leI (a := 0) (b := n) (by omega) (by omega)).mp c51
              refine lv_iload_n X.x X.b d_X_sheet_61 rfl (lv_at hl 4 rfl) ?_
              refine lv_bipush (v := nI 40) X.x X.b d_X_sheet_62 (by decide) ?_
              refine lv_icmp_le (tgt := 74) X.x X.b d_X_sheet_64 (by decide) (fun c64 => ?_) (fun c64 => ?_)
              · have c64 : n ≤ 40 := (nI_leI (a := n) (b := 40) (by omega) (by omega)).mp c64
                refine lv_aload_n X.x X.b d_X_sheet_74 rfl (lv_at hl 1 rfl) ?_
                refine q_getr X hW qj3 rfl _ ds_X 5 (by decide) mw_188 rfl (c1 := 60) rfl d_X_sheet_75 ?_
                refine lv_iload_n X.x X.b d_X_sheet_78 rfl (lv_at hl 2 rfl) ?_
                refine g_ss X hW (show j < 4 by omega) d_X_sheet_79 ?_
                refine lv_iload_n X.x X.b d_X_sheet_80 rfl (lv_at hl 3 rfl) ?_
                refine lv_iload_n X.x X.b d_X_sheet_81 rfl (lv_at hl 3 rfl) ?_
                refine lv_if_ne (tgt := 89) X.x X.b d_X_sheet_82 (by decide) (fun c82 => ?_) (fun c82 => ?_)
                · have c82 : ¬ 16 = 0 := fun z => c82 ((nI_eq (a := 16) (b := 0) (by omega) (by omega)).mpr z)
                  refine lv_iload_n X.x X.b d_X_sheet_89 rfl (lv_at hl 4 rfl) ?_
                  refine q_cvv X (c_Sh_begin l E S j β σ (by omega) (by rw [hβ]) (by rw [hσ]) (nI 16) (nI n)) hW (q_recv X hW (ds_s (j := j) (by omega)) rfl) ok_Sh_begin mw_617 ⟨by decide, by decide⟩ (As := [.int (nI 16), .int (nI n)]) rfl rfl (Nat.le_of_ble_eq_true rfl) (lv := [(4, .int (nI 1)), (0, .ref (eA E 0)), (1, .int (nI j)), (2, .int (nI 16)), (3, .int (nI n))]) hl ⟨Nat.le_refl 0, Nat.le_refl 0⟩ d_X_sheet_90 (fun H locs hW => ?_)
                  have hW : qWH E (qr (qr S (6 + j) (upd (upd β 1 (nI 16)) 2 (nI n))) (10 + j) (zer σ)) s H locs := hW
                  refine lv_aload_n X.x X.b d_X_sheet_93 rfl (lv_at hl 1 rfl) ?_
                  refine q_getr X hW qj3 rfl _ ds_X 5 (by decide) mw_188 rfl (c1 := 60) rfl d_X_sheet_94 ?_
                  refine lv_iload_n X.x X.b d_X_sheet_97 rfl (lv_at hl 2 rfl) ?_
                  refine g_ss X hW (show j < 4 by omega) d_X_sheet_98 ?_
                  refine g_geti X hW qj1 rfl _ (ds_s (j := j) (by omega)) 2 (by decide) mw_175 rfl (r0 := 6 + j) (p0 := 2) rfl (v := (upd (upd β 1 (nI 16)) 2 (nI n)) 2) (by rw [qr_ne (by omega), qr_at]) d_X_sheet_99 ?_
                  exact q_zret X rfl hW ⟨by rw [upd_at], rfl⟩ d_X_sheet_102
                · exact absurd c82 (by decide)
              · have c64 : ¬ n ≤ 40 := fun z => c64 ((nI_leI (a := n) (b := 40) (by omega) (by omega)).mpr z)
                omega
            · have c51 : ¬ 0 ≤ n := fun z => c51 ((nI_leI (a := 0) (b := n) (by omega) (by omega)).mpr z)
              omega
          · exact absurd c40 (by decide)
      · exact absurd (by decide) c13
set_option maxHeartbeats 1000000 in
set_option maxRecDepth 20000 in
theorem c_X_sheet_n16 (l : Launch) (E : QE) (S : QM) (ρ φ : Nat → Int32) (hρ : S 0 = ρ) (hφ : S 14 = φ) (hwf : WF ρ) (j : Nat) (hj : j < 4) (n : Int32) (hn : n < 0) : qCI E l y_X_sheet prog_1_method_34_code 5 .int 3 [.ref (eA E 0), .int (nI j), .int (nI 16), .int n] S (-1000007) (qr S 14 (fnS φ 6)) := by
  refine qCI_of (by decide) (Nat.le_of_ble_eq_true rfl) (fun p e s m below meth c ls X hW hl => ?_)
  have hl : lv_has ls 5 [(0, .ref (eA E 0)), (1, .int (nI j)), (2, .int (nI 16)), (3, .int n)] := hl
  have htl := hwf.tl
  have hwl := hwf.wl
  have hdl := hwf.dl
  refine lv_iload_n X.x X.b d_X_sheet_0 rfl (lv_at hl 2 rfl) ?_
  refine lv_if_eq (tgt := 22) X.x X.b d_X_sheet_1 (by decide) (fun c1 => ?_) (fun c1 => ?_)
  · exact absurd c1 (by decide)
  · have c1 : ¬ 16 = 0 := fun z => c1 ((nI_eq (a := 16) (b := 0) (by omega) (by omega)).mpr z)
    refine lv_iload_n X.x X.b d_X_sheet_4 rfl (lv_at hl 2 rfl) ?_
    refine lv_bipush (v := nI 8) X.x X.b d_X_sheet_5 (by decide) ?_
    refine lv_icmp_eq (tgt := 22) X.x X.b d_X_sheet_7 (by decide) (fun c7 => ?_) (fun c7 => ?_)
    · exact absurd c7 (by decide)
    · have c7 : ¬ 16 = 8 := fun z => c7 ((nI_eq (a := 16) (b := 8) (by omega) (by omega)).mpr z)
      refine lv_iload_n X.x X.b d_X_sheet_10 rfl (lv_at hl 2 rfl) ?_
      refine lv_bipush (v := nI 16) X.x X.b d_X_sheet_11 (by decide) ?_
      refine lv_icmp_eq (tgt := 22) X.x X.b d_X_sheet_13 (by decide) (fun c13 => ?_) (fun c13 => ?_)
      · have c13 : 16 = 16 := (nI_eq (a := 16) (b := 16) (by omega) (by omega)).mp c13
        refine lv_iconst (v := nI 1) X.x X.b d_X_sheet_22 (by decide) ?_
        refine lv_goto (tgt := 27) X.x X.b d_X_sheet_23 (by decide) ?_
        refine lv_istore (lv' := [(4, .int (nI 1)), (0, .ref (eA E 0)), (1, .int (nI j)), (2, .int (nI 16)), (3, .int n)]) X.x X.b d_X_sheet_27 hl (by decide) rfl (fun ls hl => ?_)
        refine lv_iload_n X.x X.b d_X_sheet_29 rfl (lv_at hl 2 rfl) ?_
        refine lv_iconst (v := nI 0) X.x X.b d_X_sheet_30 (by decide) ?_
        refine lv_iconst (v := nI 3) X.x X.b d_X_sheet_31 (by decide) ?_
        refine q_csi X (c_X_within l E S (nI j) (nI 0) (nI 3)) hW ok_X_within mw_209 ⟨by decide, by decide⟩ (As := [.int (nI j), .int (nI 0), .int (nI 3)]) rfl rfl (Nat.le_of_ble_eq_true rfl) (lv := [(4, .int (nI 1)), (0, .ref (eA E 0)), (1, .int (nI j)), (2, .int (nI 16)), (3, .int n)]) hl ⟨Nat.le_refl 0, Nat.le_refl 0⟩ d_X_sheet_32 (fun H locs hW => ?_)
        refine lv_if_eq (tgt := 43) X.x X.b d_X_sheet_35 (by decide) (fun c35 => ?_) (fun c35 => ?_)
        · have c35 := b2i_e c35
          have c35 := mt (inR_i (by omega) (by decide)).mpr c35
          omega
        · have c35 := b2i_n c35
          have c35 := (inR_i (by omega) (by decide)).mp c35
          refine lv_iload X.x X.b d_X_sheet_38 (lv_at hl 0 rfl) ?_
          refine lv_if_ne (tgt := 50) X.x X.b d_X_sheet_40 (by decide) (fun c40 => ?_) (fun c40 => ?_)
          · have c40 : ¬ 1 = 0 := fun z => c40 ((nI_eq (a := 1) (b := 0) (by omega) (by omega)).mpr z)
            refine lv_iload_n X.x X.b d_X_sheet_50 rfl (lv_at hl 4 rfl) ?_
            refine lv_if_ge (tgt := 61) X.x X.b d_X_sheet_51 (by decide) (fun c51 => ?_) (fun c51 => ?_)
            · exact absurd hn (Int32.not_lt.mpr c51)
            · refine lv_aload_n X.x X.b d_X_sheet_54 rfl (lv_at hl 1 rfl) ?_
              refine lv_ldc (v := (-1000007)) X.x X.b X.ow (X.ts _ mw_616) d_X_sheet_55 ?_
              refine q_cvi X (c_X_told_6 l E S φ (by rw [hφ])) hW (q_recv X hW ds_X rfl) ok_X_told mw_213 ⟨by decide, by decide⟩ (As := [.int (-1000007)]) rfl rfl (Nat.le_of_ble_eq_true rfl) (lv := [(4, .int (nI 1)), (0, .ref (eA E 0)), (1, .int (nI j)), (2, .int (nI 16)), (3, .int n)]) hl ⟨Nat.le_refl 0, Nat.le_refl 0⟩ d_X_sheet_57 (fun H locs hW => ?_)
              have hW : qWH E (qr S 14 (fnS φ 6)) s H locs := hW
              exact q_zret X rfl hW ⟨rfl, rfl⟩ d_X_sheet_60
          · exact absurd c40 (by decide)
      · exact absurd (by decide) c13
set_option maxHeartbeats 1000000 in
set_option maxRecDepth 20000 in
theorem c_X_sheet_m16 (l : Launch) (E : QE) (S : QM) (ρ φ : Nat → Int32) (hρ : S 0 = ρ) (hφ : S 14 = φ) (hwf : WF ρ) (j : Nat) (hj : j < 4) (n : Int32) (hn : ¬ n < 0) (hm : ¬ n ≤ nI 40) : qCI E l y_X_sheet prog_1_method_34_code 5 .int 3 [.ref (eA E 0), .int (nI j), .int (nI 16), .int n] S (-1000001) (qr S 14 (fnS φ 0)) := by
  refine qCI_of (by decide) (Nat.le_of_ble_eq_true rfl) (fun p e s m below meth c ls X hW hl => ?_)
  have hl : lv_has ls 5 [(0, .ref (eA E 0)), (1, .int (nI j)), (2, .int (nI 16)), (3, .int n)] := hl
  have htl := hwf.tl
  have hwl := hwf.wl
  have hdl := hwf.dl
  refine lv_iload_n X.x X.b d_X_sheet_0 rfl (lv_at hl 2 rfl) ?_
  refine lv_if_eq (tgt := 22) X.x X.b d_X_sheet_1 (by decide) (fun c1 => ?_) (fun c1 => ?_)
  · exact absurd c1 (by decide)
  · have c1 : ¬ 16 = 0 := fun z => c1 ((nI_eq (a := 16) (b := 0) (by omega) (by omega)).mpr z)
    refine lv_iload_n X.x X.b d_X_sheet_4 rfl (lv_at hl 2 rfl) ?_
    refine lv_bipush (v := nI 8) X.x X.b d_X_sheet_5 (by decide) ?_
    refine lv_icmp_eq (tgt := 22) X.x X.b d_X_sheet_7 (by decide) (fun c7 => ?_) (fun c7 => ?_)
    · exact absurd c7 (by decide)
    · have c7 : ¬ 16 = 8 := fun z => c7 ((nI_eq (a := 16) (b := 8) (by omega) (by omega)).mpr z)
      refine lv_iload_n X.x X.b d_X_sheet_10 rfl (lv_at hl 2 rfl) ?_
      refine lv_bipush (v := nI 16) X.x X.b d_X_sheet_11 (by decide) ?_
      refine lv_icmp_eq (tgt := 22) X.x X.b d_X_sheet_13 (by decide) (fun c13 => ?_) (fun c13 => ?_)
      · have c13 : 16 = 16 := (nI_eq (a := 16) (b := 16) (by omega) (by omega)).mp c13
        refine lv_iconst (v := nI 1) X.x X.b d_X_sheet_22 (by decide) ?_
        refine lv_goto (tgt := 27) X.x X.b d_X_sheet_23 (by decide) ?_
        refine lv_istore (lv' := [(4, .int (nI 1)), (0, .ref (eA E 0)), (1, .int (nI j)), (2, .int (nI 16)), (3, .int n)]) X.x X.b d_X_sheet_27 hl (by decide) rfl (fun ls hl => ?_)
        refine lv_iload_n X.x X.b d_X_sheet_29 rfl (lv_at hl 2 rfl) ?_
        refine lv_iconst (v := nI 0) X.x X.b d_X_sheet_30 (by decide) ?_
        refine lv_iconst (v := nI 3) X.x X.b d_X_sheet_31 (by decide) ?_
        refine q_csi X (c_X_within l E S (nI j) (nI 0) (nI 3)) hW ok_X_within mw_209 ⟨by decide, by decide⟩ (As := [.int (nI j), .int (nI 0), .int (nI 3)]) rfl rfl (Nat.le_of_ble_eq_true rfl) (lv := [(4, .int (nI 1)), (0, .ref (eA E 0)), (1, .int (nI j)), (2, .int (nI 16)), (3, .int n)]) hl ⟨Nat.le_refl 0, Nat.le_refl 0⟩ d_X_sheet_32 (fun H locs hW => ?_)
        refine lv_if_eq (tgt := 43) X.x X.b d_X_sheet_35 (by decide) (fun c35 => ?_) (fun c35 => ?_)
        · have c35 := b2i_e c35
          have c35 := mt (inR_i (by omega) (by decide)).mpr c35
          omega
        · have c35 := b2i_n c35
          have c35 := (inR_i (by omega) (by decide)).mp c35
          refine lv_iload X.x X.b d_X_sheet_38 (lv_at hl 0 rfl) ?_
          refine lv_if_ne (tgt := 50) X.x X.b d_X_sheet_40 (by decide) (fun c40 => ?_) (fun c40 => ?_)
          · have c40 : ¬ 1 = 0 := fun z => c40 ((nI_eq (a := 1) (b := 0) (by omega) (by omega)).mpr z)
            refine lv_iload_n X.x X.b d_X_sheet_50 rfl (lv_at hl 4 rfl) ?_
            refine lv_if_ge (tgt := 61) X.x X.b d_X_sheet_51 (by decide) (fun c51 => ?_) (fun c51 => ?_)
            · refine lv_iload_n X.x X.b d_X_sheet_61 rfl (lv_at hl 4 rfl) ?_
              refine lv_bipush (v := nI 40) X.x X.b d_X_sheet_62 (by decide) ?_
              refine lv_icmp_le (tgt := 74) X.x X.b d_X_sheet_64 (by decide) (fun c64 => ?_) (fun c64 => ?_)
              · exact absurd c64 hm
              · refine lv_aload_n X.x X.b d_X_sheet_67 rfl (lv_at hl 1 rfl) ?_
                refine lv_ldc (v := (-1000001)) X.x X.b X.ow (X.ts _ mw_212) d_X_sheet_68 ?_
                refine q_cvi X (c_X_told_0 l E S φ (by rw [hφ])) hW (q_recv X hW ds_X rfl) ok_X_told mw_213 ⟨by decide, by decide⟩ (As := [.int (-1000001)]) rfl rfl (Nat.le_of_ble_eq_true rfl) (lv := [(4, .int (nI 1)), (0, .ref (eA E 0)), (1, .int (nI j)), (2, .int (nI 16)), (3, .int n)]) hl ⟨Nat.le_refl 0, Nat.le_refl 0⟩ d_X_sheet_70 (fun H locs hW => ?_)
                have hW : qWH E (qr S 14 (fnS φ 0)) s H locs := hW
                exact q_zret X rfl hW ⟨rfl, rfl⟩ d_X_sheet_73
            · exact absurd (Int32.not_lt.mp hn) c51
          · exact absurd c40 (by decide)
      · exact absurd (by decide) c13
set_option maxHeartbeats 1000000 in
set_option maxRecDepth 20000 in
theorem c_X_sheet_32 (l : Launch) (E : QE) (S : QM) (ρ φ : Nat → Int32) (hρ : S 0 = ρ) (hφ : S 14 = φ) (hwf : WF ρ) (j : Nat) (β σ : Nat → Int32) (hj : j < 4) (hβ : S (6 + j) = β) (hσ : S (10 + j) = σ) (n : Nat) (hn : n ≤ 40) : qCI E l y_X_sheet prog_1_method_34_code 5 .int 4 [.ref (eA E 0), .int (nI j), .int (nI 32), .int (nI n)] S (nI n) (qr (qr S (6 + j) (upd (upd β 1 (nI 32)) 2 (nI n))) (10 + j) (zer σ)) := by
  refine qCI_of (by decide) (Nat.le_of_ble_eq_true rfl) (fun p e s m below meth c ls X hW hl => ?_)
  have hl : lv_has ls 5 [(0, .ref (eA E 0)), (1, .int (nI j)), (2, .int (nI 32)), (3, .int (nI n))] := hl
  have htl := hwf.tl
  have hwl := hwf.wl
  have hdl := hwf.dl
  refine lv_iload_n X.x X.b d_X_sheet_0 rfl (lv_at hl 2 rfl) ?_
  refine lv_if_eq (tgt := 22) X.x X.b d_X_sheet_1 (by decide) (fun c1 => ?_) (fun c1 => ?_)
  · exact absurd c1 (by decide)
  · have c1 : ¬ 32 = 0 := fun z => c1 ((nI_eq (a := 32) (b := 0) (by omega) (by omega)).mpr z)
    refine lv_iload_n X.x X.b d_X_sheet_4 rfl (lv_at hl 2 rfl) ?_
    refine lv_bipush (v := nI 8) X.x X.b d_X_sheet_5 (by decide) ?_
    refine lv_icmp_eq (tgt := 22) X.x X.b d_X_sheet_7 (by decide) (fun c7 => ?_) (fun c7 => ?_)
    · exact absurd c7 (by decide)
    · have c7 : ¬ 32 = 8 := fun z => c7 ((nI_eq (a := 32) (b := 8) (by omega) (by omega)).mpr z)
      refine lv_iload_n X.x X.b d_X_sheet_10 rfl (lv_at hl 2 rfl) ?_
      refine lv_bipush (v := nI 16) X.x X.b d_X_sheet_11 (by decide) ?_
      refine lv_icmp_eq (tgt := 22) X.x X.b d_X_sheet_13 (by decide) (fun c13 => ?_) (fun c13 => ?_)
      · exact absurd c13 (by decide)
      · have c13 : ¬ 32 = 16 := fun z => c13 ((nI_eq (a := 32) (b := 16) (by omega) (by omega)).mpr z)
        refine lv_iload_n X.x X.b d_X_sheet_16 rfl (lv_at hl 2 rfl) ?_
        refine lv_bipush (v := nI 32) X.x X.b d_X_sheet_17 (by decide) ?_
        refine lv_icmp_ne (tgt := 26) X.x X.b d_X_sheet_19 (by decide) (fun c19 => ?_) (fun c19 => ?_)
        · exact absurd (by decide) c19
        · have c19 : 32 = 32 := (nI_eq (a := 32) (b := 32) (by omega) (by omega)).mp c19
          refine lv_iconst (v := nI 1) X.x X.b d_X_sheet_22 (by decide) ?_
          refine lv_goto (tgt := 27) X.x X.b d_X_sheet_23 (by decide) ?_
          refine lv_istore (lv' := [(4, .int (nI 1)), (0, .ref (eA E 0)), (1, .int (nI j)), (2, .int (nI 32)), (3, .int (nI n))]) X.x X.b d_X_sheet_27 hl (by decide) rfl (fun ls hl => ?_)
          refine lv_iload_n X.x X.b d_X_sheet_29 rfl (lv_at hl 2 rfl) ?_
          refine lv_iconst (v := nI 0) X.x X.b d_X_sheet_30 (by decide) ?_
          refine lv_iconst (v := nI 3) X.x X.b d_X_sheet_31 (by decide) ?_
          refine q_csi X (c_X_within l E S (nI j) (nI 0) (nI 3)) hW ok_X_within mw_209 ⟨by decide, by decide⟩ (As := [.int (nI j), .int (nI 0), .int (nI 3)]) rfl rfl (Nat.le_of_ble_eq_true rfl) (lv := [(4, .int (nI 1)), (0, .ref (eA E 0)), (1, .int (nI j)), (2, .int (nI 32)), (3, .int (nI n))]) hl ⟨Nat.le_refl 0, Nat.le_refl 0⟩ d_X_sheet_32 (fun H locs hW => ?_)
          refine lv_if_eq (tgt := 43) X.x X.b d_X_sheet_35 (by decide) (fun c35 => ?_) (fun c35 => ?_)
          · have c35 := b2i_e c35
            have c35 := mt (inR_i (by omega) (by decide)).mpr c35
            omega
          · have c35 := b2i_n c35
            have c35 := (inR_i (by omega) (by decide)).mp c35
            refine lv_iload X.x X.b d_X_sheet_38 (lv_at hl 0 rfl) ?_
            refine lv_if_ne (tgt := 50) X.x X.b d_X_sheet_40 (by decide) (fun c40 => ?_) (fun c40 => ?_)
            · have c40 : ¬ 1 = 0 := fun z => c40 ((nI_eq (a := 1) (b := 0) (by omega) (by omega)).mpr z)
              refine lv_iload_n X.x X.b d_X_sheet_50 rfl (lv_at hl 4 rfl) ?_
              refine lv_if_ge (tgt := 61) X.x X.b d_X_sheet_51 (by decide) (fun c51 => ?_) (fun c51 => ?_)
              · have c51 : 0 ≤ n := (nI_leI (a := 0) (b := n) (by omega) (by omega)).mp c51
                refine lv_iload_n X.x X.b d_X_sheet_61 rfl (lv_at hl 4 rfl) ?_
                refine lv_bipush (v := nI 40) X.x X.b d_X_sheet_62 (by decide) ?_
                refine lv_icmp_le (tgt := 74) X.x X.b d_X_sheet_64 (by decide) (fun c64 => ?_) (fun c64 => ?_)
                · have c64 : n ≤ 40 := (nI_leI (a := n) (b := 40) (by omega) (by omega)).mp c64
                  refine lv_aload_n X.x X.b d_X_sheet_74 rfl (lv_at hl 1 rfl) ?_
                  refine q_getr X hW qj3 rfl _ ds_X 5 (by decide) mw_188 rfl (c1 := 60) rfl d_X_sheet_75 ?_
                  refine lv_iload_n X.x X.b d_X_sheet_78 rfl (lv_at hl 2 rfl) ?_
                  refine g_ss X hW (show j < 4 by omega) d_X_sheet_79 ?_
                  refine lv_iload_n X.x X.b d_X_sheet_80 rfl (lv_at hl 3 rfl) ?_
                  refine lv_iload_n X.x X.b d_X_sheet_81 rfl (lv_at hl 3 rfl) ?_
                  refine lv_if_ne (tgt := 89) X.x X.b d_X_sheet_82 (by decide) (fun c82 => ?_) (fun c82 => ?_)
                  · have c82 : ¬ 32 = 0 := fun z => c82 ((nI_eq (a := 32) (b := 0) (by omega) (by omega)).mpr z)
                    refine lv_iload_n X.x X.b d_X_sheet_89 rfl (lv_at hl 4 rfl) ?_
                    refine q_cvv X (c_Sh_begin l E S j β σ (by omega) (by rw [hβ]) (by rw [hσ]) (nI 32) (nI n)) hW (q_recv X hW (ds_s (j := j) (by omega)) rfl) ok_Sh_begin mw_617 ⟨by decide, by decide⟩ (As := [.int (nI 32), .int (nI n)]) rfl rfl (Nat.le_of_ble_eq_true rfl) (lv := [(4, .int (nI 1)), (0, .ref (eA E 0)), (1, .int (nI j)), (2, .int (nI 32)), (3, .int (nI n))]) hl ⟨Nat.le_refl 0, Nat.le_refl 0⟩ d_X_sheet_90 (fun H locs hW => ?_)
                    have hW : qWH E (qr (qr S (6 + j) (upd (upd β 1 (nI 32)) 2 (nI n))) (10 + j) (zer σ)) s H locs := hW
                    refine lv_aload_n X.x X.b d_X_sheet_93 rfl (lv_at hl 1 rfl) ?_
                    refine q_getr X hW qj3 rfl _ ds_X 5 (by decide) mw_188 rfl (c1 := 60) rfl d_X_sheet_94 ?_
                    refine lv_iload_n X.x X.b d_X_sheet_97 rfl (lv_at hl 2 rfl) ?_
                    refine g_ss X hW (show j < 4 by omega) d_X_sheet_98 ?_
                    refine g_geti X hW qj1 rfl _ (ds_s (j := j) (by omega)) 2 (by decide) mw_175 rfl (r0 := 6 + j) (p0 := 2) rfl (v := (upd (upd β 1 (nI 32)) 2 (nI n)) 2) (by rw [qr_ne (by omega), qr_at]) d_X_sheet_99 ?_
                    exact q_zret X rfl hW ⟨by rw [upd_at], rfl⟩ d_X_sheet_102
                  · exact absurd c82 (by decide)
                · have c64 : ¬ n ≤ 40 := fun z => c64 ((nI_leI (a := n) (b := 40) (by omega) (by omega)).mpr z)
                  omega
              · have c51 : ¬ 0 ≤ n := fun z => c51 ((nI_leI (a := 0) (b := n) (by omega) (by omega)).mpr z)
                omega
            · exact absurd c40 (by decide)
set_option maxHeartbeats 1000000 in
set_option maxRecDepth 20000 in
theorem c_X_sheet_n32 (l : Launch) (E : QE) (S : QM) (ρ φ : Nat → Int32) (hρ : S 0 = ρ) (hφ : S 14 = φ) (hwf : WF ρ) (j : Nat) (hj : j < 4) (n : Int32) (hn : n < 0) : qCI E l y_X_sheet prog_1_method_34_code 5 .int 3 [.ref (eA E 0), .int (nI j), .int (nI 32), .int n] S (-1000007) (qr S 14 (fnS φ 6)) := by
  refine qCI_of (by decide) (Nat.le_of_ble_eq_true rfl) (fun p e s m below meth c ls X hW hl => ?_)
  have hl : lv_has ls 5 [(0, .ref (eA E 0)), (1, .int (nI j)), (2, .int (nI 32)), (3, .int n)] := hl
  have htl := hwf.tl
  have hwl := hwf.wl
  have hdl := hwf.dl
  refine lv_iload_n X.x X.b d_X_sheet_0 rfl (lv_at hl 2 rfl) ?_
  refine lv_if_eq (tgt := 22) X.x X.b d_X_sheet_1 (by decide) (fun c1 => ?_) (fun c1 => ?_)
  · exact absurd c1 (by decide)
  · have c1 : ¬ 32 = 0 := fun z => c1 ((nI_eq (a := 32) (b := 0) (by omega) (by omega)).mpr z)
    refine lv_iload_n X.x X.b d_X_sheet_4 rfl (lv_at hl 2 rfl) ?_
    refine lv_bipush (v := nI 8) X.x X.b d_X_sheet_5 (by decide) ?_
    refine lv_icmp_eq (tgt := 22) X.x X.b d_X_sheet_7 (by decide) (fun c7 => ?_) (fun c7 => ?_)
    · exact absurd c7 (by decide)
    · have c7 : ¬ 32 = 8 := fun z => c7 ((nI_eq (a := 32) (b := 8) (by omega) (by omega)).mpr z)
      refine lv_iload_n X.x X.b d_X_sheet_10 rfl (lv_at hl 2 rfl) ?_
      refine lv_bipush (v := nI 16) X.x X.b d_X_sheet_11 (by decide) ?_
      refine lv_icmp_eq (tgt := 22) X.x X.b d_X_sheet_13 (by decide) (fun c13 => ?_) (fun c13 => ?_)
      · exact absurd c13 (by decide)
      · have c13 : ¬ 32 = 16 := fun z => c13 ((nI_eq (a := 32) (b := 16) (by omega) (by omega)).mpr z)
        refine lv_iload_n X.x X.b d_X_sheet_16 rfl (lv_at hl 2 rfl) ?_
        refine lv_bipush (v := nI 32) X.x X.b d_X_sheet_17 (by decide) ?_
        refine lv_icmp_ne (tgt := 26) X.x X.b d_X_sheet_19 (by decide) (fun c19 => ?_) (fun c19 => ?_)
        · exact absurd (by decide) c19
        · have c19 : 32 = 32 := (nI_eq (a := 32) (b := 32) (by omega) (by omega)).mp c19
          refine lv_iconst (v := nI 1) X.x X.b d_X_sheet_22 (by decide) ?_
          refine lv_goto (tgt := 27) X.x X.b d_X_sheet_23 (by decide) ?_
          refine lv_istore (lv' := [(4, .int (nI 1)), (0, .ref (eA E 0)), (1, .int (nI j)), (2, .int (nI 32)), (3, .int n)]) X.x X.b d_X_sheet_27 hl (by decide) rfl (fun ls hl => ?_)
          refine lv_iload_n X.x X.b d_X_sheet_29 rfl (lv_at hl 2 rfl) ?_
          refine lv_iconst (v := nI 0) X.x X.b d_X_sheet_30 (by decide) ?_
          refine lv_iconst (v := nI 3) X.x X.b d_X_sheet_31 (by decide) ?_
          refine q_csi X (c_X_within l E S (nI j) (nI 0) (nI 3)) hW ok_X_within mw_209 ⟨by decide, by decide⟩ (As := [.int (nI j), .int (nI 0), .int (nI 3)]) rfl rfl (Nat.le_of_ble_eq_true rfl) (lv := [(4, .int (nI 1)), (0, .ref (eA E 0)), (1, .int (nI j)), (2, .int (nI 32)), (3, .int n)]) hl ⟨Nat.le_refl 0, Nat.le_refl 0⟩ d_X_sheet_32 (fun H locs hW => ?_)
          refine lv_if_eq (tgt := 43) X.x X.b d_X_sheet_35 (by decide) (fun c35 => ?_) (fun c35 => ?_)
          · have c35 := b2i_e c35
            have c35 := mt (inR_i (by omega) (by decide)).mpr c35
            omega
          · have c35 := b2i_n c35
            have c35 := (inR_i (by omega) (by decide)).mp c35
            refine lv_iload X.x X.b d_X_sheet_38 (lv_at hl 0 rfl) ?_
            refine lv_if_ne (tgt := 50) X.x X.b d_X_sheet_40 (by decide) (fun c40 => ?_) (fun c40 => ?_)
            · have c40 : ¬ 1 = 0 := fun z => c40 ((nI_eq (a := 1) (b := 0) (by omega) (by omega)).mpr z)
              refine lv_iload_n X.x X.b d_X_sheet_50 rfl (lv_at hl 4 rfl) ?_
              refine lv_if_ge (tgt := 61) X.x X.b d_X_sheet_51 (by decide) (fun c51 => ?_) (fun c51 => ?_)
              · exact absurd hn (Int32.not_lt.mpr c51)
              · refine lv_aload_n X.x X.b d_X_sheet_54 rfl (lv_at hl 1 rfl) ?_
                refine lv_ldc (v := (-1000007)) X.x X.b X.ow (X.ts _ mw_616) d_X_sheet_55 ?_
                refine q_cvi X (c_X_told_6 l E S φ (by rw [hφ])) hW (q_recv X hW ds_X rfl) ok_X_told mw_213 ⟨by decide, by decide⟩ (As := [.int (-1000007)]) rfl rfl (Nat.le_of_ble_eq_true rfl) (lv := [(4, .int (nI 1)), (0, .ref (eA E 0)), (1, .int (nI j)), (2, .int (nI 32)), (3, .int n)]) hl ⟨Nat.le_refl 0, Nat.le_refl 0⟩ d_X_sheet_57 (fun H locs hW => ?_)
                have hW : qWH E (qr S 14 (fnS φ 6)) s H locs := hW
                exact q_zret X rfl hW ⟨rfl, rfl⟩ d_X_sheet_60
            · exact absurd c40 (by decide)
set_option maxHeartbeats 1000000 in
set_option maxRecDepth 20000 in
theorem c_X_sheet_m32 (l : Launch) (E : QE) (S : QM) (ρ φ : Nat → Int32) (hρ : S 0 = ρ) (hφ : S 14 = φ) (hwf : WF ρ) (j : Nat) (hj : j < 4) (n : Int32) (hn : ¬ n < 0) (hm : ¬ n ≤ nI 40) : qCI E l y_X_sheet prog_1_method_34_code 5 .int 3 [.ref (eA E 0), .int (nI j), .int (nI 32), .int n] S (-1000001) (qr S 14 (fnS φ 0)) := by
  refine qCI_of (by decide) (Nat.le_of_ble_eq_true rfl) (fun p e s m below meth c ls X hW hl => ?_)
  have hl : lv_has ls 5 [(0, .ref (eA E 0)), (1, .int (nI j)), (2, .int (nI 32)), (3, .int n)] := hl
  have htl := hwf.tl
  have hwl := hwf.wl
  have hdl := hwf.dl
  refine lv_iload_n X.x X.b d_X_sheet_0 rfl (lv_at hl 2 rfl) ?_
  refine lv_if_eq (tgt := 22) X.x X.b d_X_sheet_1 (by decide) (fun c1 => ?_) (fun c1 => ?_)
  · exact absurd c1 (by decide)
  · have c1 : ¬ 32 = 0 := fun z => c1 ((nI_eq (a := 32) (b := 0) (by omega) (by omega)).mpr z)
    refine lv_iload_n X.x X.b d_X_sheet_4 rfl (lv_at hl 2 rfl) ?_
    refine lv_bipush (v := nI 8) X.x X.b d_X_sheet_5 (by decide) ?_
    refine lv_icmp_eq (tgt := 22) X.x X.b d_X_sheet_7 (by decide) (fun c7 => ?_) (fun c7 => ?_)
    · exact absurd c7 (by decide)
    · have c7 : ¬ 32 = 8 := fun z => c7 ((nI_eq (a := 32) (b := 8) (by omega) (by omega)).mpr z)
      refine lv_iload_n X.x X.b d_X_sheet_10 rfl (lv_at hl 2 rfl) ?_
      refine lv_bipush (v := nI 16) X.x X.b d_X_sheet_11 (by decide) ?_
      refine lv_icmp_eq (tgt := 22) X.x X.b d_X_sheet_13 (by decide) (fun c13 => ?_) (fun c13 => ?_)
      · exact absurd c13 (by decide)
      · have c13 : ¬ 32 = 16 := fun z => c13 ((nI_eq (a := 32) (b := 16) (by omega) (by omega)).mpr z)
        refine lv_iload_n X.x X.b d_X_sheet_16 rfl (lv_at hl 2 rfl) ?_
        refine lv_bipush (v := nI 32) X.x X.b d_X_sheet_17 (by decide) ?_
        refine lv_icmp_ne (tgt := 26) X.x X.b d_X_sheet_19 (by decide) (fun c19 => ?_) (fun c19 => ?_)
        · exact absurd (by decide) c19
        · have c19 : 32 = 32 := (nI_eq (a := 32) (b := 32) (by omega) (by omega)).mp c19
          refine lv_iconst (v := nI 1) X.x X.b d_X_sheet_22 (by decide) ?_
          refine lv_goto (tgt := 27) X.x X.b d_X_sheet_23 (by decide) ?_
          refine lv_istore (lv' := [(4, .int (nI 1)), (0, .ref (eA E 0)), (1, .int (nI j)), (2, .int (nI 32)), (3, .int n)]) X.x X.b d_X_sheet_27 hl (by decide) rfl (fun ls hl => ?_)
          refine lv_iload_n X.x X.b d_X_sheet_29 rfl (lv_at hl 2 rfl) ?_
          refine lv_iconst (v := nI 0) X.x X.b d_X_sheet_30 (by decide) ?_
          refine lv_iconst (v := nI 3) X.x X.b d_X_sheet_31 (by decide) ?_
          refine q_csi X (c_X_within l E S (nI j) (nI 0) (nI 3)) hW ok_X_within mw_209 ⟨by decide, by decide⟩ (As := [.int (nI j), .int (nI 0), .int (nI 3)]) rfl rfl (Nat.le_of_ble_eq_true rfl) (lv := [(4, .int (nI 1)), (0, .ref (eA E 0)), (1, .int (nI j)), (2, .int (nI 32)), (3, .int n)]) hl ⟨Nat.le_refl 0, Nat.le_refl 0⟩ d_X_sheet_32 (fun H locs hW => ?_)
          refine lv_if_eq (tgt := 43) X.x X.b d_X_sheet_35 (by decide) (fun c35 => ?_) (fun c35 => ?_)
          · have c35 := b2i_e c35
            have c35 := mt (inR_i (by omega) (by decide)).mpr c35
            omega
          · have c35 := b2i_n c35
            have c35 := (inR_i (by omega) (by decide)).mp c35
            refine lv_iload X.x X.b d_X_sheet_38 (lv_at hl 0 rfl) ?_
            refine lv_if_ne (tgt := 50) X.x X.b d_X_sheet_40 (by decide) (fun c40 => ?_) (fun c40 => ?_)
            · have c40 : ¬ 1 = 0 := fun z => c40 ((nI_eq (a := 1) (b := 0) (by omega) (by omega)).mpr z)
              refine lv_iload_n X.x X.b d_X_sheet_50 rfl (lv_at hl 4 rfl) ?_
              refine lv_if_ge (tgt := 61) X.x X.b d_X_sheet_51 (by decide) (fun c51 => ?_) (fun c51 => ?_)
              · refine lv_iload_n X.x X.b d_X_sheet_61 rfl (lv_at hl 4 rfl) ?_
                refine lv_bipush (v := nI 40) X.x X.b d_X_sheet_62 (by decide) ?_
                refine lv_icmp_le (tgt := 74) X.x X.b d_X_sheet_64 (by decide) (fun c64 => ?_) (fun c64 => ?_)
                · exact absurd c64 hm
                · refine lv_aload_n X.x X.b d_X_sheet_67 rfl (lv_at hl 1 rfl) ?_
                  refine lv_ldc (v := (-1000001)) X.x X.b X.ow (X.ts _ mw_212) d_X_sheet_68 ?_
                  refine q_cvi X (c_X_told_0 l E S φ (by rw [hφ])) hW (q_recv X hW ds_X rfl) ok_X_told mw_213 ⟨by decide, by decide⟩ (As := [.int (-1000001)]) rfl rfl (Nat.le_of_ble_eq_true rfl) (lv := [(4, .int (nI 1)), (0, .ref (eA E 0)), (1, .int (nI j)), (2, .int (nI 32)), (3, .int n)]) hl ⟨Nat.le_refl 0, Nat.le_refl 0⟩ d_X_sheet_70 (fun H locs hW => ?_)
                  have hW : qWH E (qr S 14 (fnS φ 0)) s H locs := hW
                  exact q_zret X rfl hW ⟨rfl, rfl⟩ d_X_sheet_73
              · exact absurd (Int32.not_lt.mp hn) c51
            · exact absurd c40 (by decide)
set_option maxHeartbeats 1000000 in
set_option maxRecDepth 20000 in
theorem c_X_sheet_b (l : Launch) (E : QE) (S : QM) (ρ φ : Nat → Int32) (hρ : S 0 = ρ) (hφ : S 14 = φ) (hwf : WF ρ) (x y z : Int32) (h : ¬ (inR 0 3 x ∧ (((y = 0 ∨ y = nI 8) ∨ y = nI 16) ∨ y = nI 32))) : qCI E l y_X_sheet prog_1_method_34_code 5 .int 3 [.ref (eA E 0), .int x, .int y, .int z] S (-1000001) (qr S 14 (fnS φ 0)) := by
  refine qCI_of (by decide) (Nat.le_of_ble_eq_true rfl) (fun p e s m below meth c ls X hW hl => ?_)
  have hl : lv_has ls 5 [(0, .ref (eA E 0)), (1, .int x), (2, .int y), (3, .int z)] := hl
  have htl := hwf.tl
  have hwl := hwf.wl
  have hdl := hwf.dl
  refine lv_iload_n X.x X.b d_X_sheet_0 rfl (lv_at hl 2 rfl) ?_
  refine lv_if_eq (tgt := 22) X.x X.b d_X_sheet_1 (by decide) (fun c1 => ?_) (fun c1 => ?_)
  · refine lv_iconst (v := nI 1) X.x X.b d_X_sheet_22 (by decide) ?_
    refine lv_goto (tgt := 27) X.x X.b d_X_sheet_23 (by decide) ?_
    refine lv_istore (lv' := [(4, .int (nI 1)), (0, .ref (eA E 0)), (1, .int x), (2, .int y), (3, .int z)]) X.x X.b d_X_sheet_27 hl (by decide) rfl (fun ls hl => ?_)
    refine lv_iload_n X.x X.b d_X_sheet_29 rfl (lv_at hl 2 rfl) ?_
    refine lv_iconst (v := nI 0) X.x X.b d_X_sheet_30 (by decide) ?_
    refine lv_iconst (v := nI 3) X.x X.b d_X_sheet_31 (by decide) ?_
    refine q_csi X (c_X_within l E S x (nI 0) (nI 3)) hW ok_X_within mw_209 ⟨by decide, by decide⟩ (As := [.int x, .int (nI 0), .int (nI 3)]) rfl rfl (Nat.le_of_ble_eq_true rfl) (lv := [(4, .int (nI 1)), (0, .ref (eA E 0)), (1, .int x), (2, .int y), (3, .int z)]) hl ⟨Nat.le_refl 0, Nat.le_refl 0⟩ d_X_sheet_32 (fun H locs hW => ?_)
    refine lv_if_eq (tgt := 43) X.x X.b d_X_sheet_35 (by decide) (fun c35 => ?_) (fun c35 => ?_)
    · have c35 := b2i_e c35
      refine lv_aload_n X.x X.b d_X_sheet_43 rfl (lv_at hl 1 rfl) ?_
      refine lv_ldc (v := (-1000001)) X.x X.b X.ow (X.ts _ mw_212) d_X_sheet_44 ?_
      refine q_cvi X (c_X_told_0 l E S φ (by rw [hφ])) hW (q_recv X hW ds_X rfl) ok_X_told mw_213 ⟨by decide, by decide⟩ (As := [.int (-1000001)]) rfl rfl (Nat.le_of_ble_eq_true rfl) (lv := [(4, .int (nI 1)), (0, .ref (eA E 0)), (1, .int x), (2, .int y), (3, .int z)]) hl ⟨Nat.le_refl 0, Nat.le_refl 0⟩ d_X_sheet_46 (fun H locs hW => ?_)
      have hW : qWH E (qr S 14 (fnS φ 0)) s H locs := hW
      exact q_zret X rfl hW ⟨rfl, rfl⟩ d_X_sheet_49
    · have c35 := b2i_n c35
      refine lv_iload X.x X.b d_X_sheet_38 (lv_at hl 0 rfl) ?_
      refine lv_if_ne (tgt := 50) X.x X.b d_X_sheet_40 (by decide) (fun c40 => ?_) (fun c40 => ?_)
      · have c40 : ¬ 1 = 0 := fun z => c40 ((nI_eq (a := 1) (b := 0) (by omega) (by omega)).mpr z)
        exact absurd ⟨c35, Or.inl (Or.inl (Or.inl c1))⟩ h
      · exact absurd c40 (by decide)
  · refine lv_iload_n X.x X.b d_X_sheet_4 rfl (lv_at hl 2 rfl) ?_
    refine lv_bipush (v := nI 8) X.x X.b d_X_sheet_5 (by decide) ?_
    refine lv_icmp_eq (tgt := 22) X.x X.b d_X_sheet_7 (by decide) (fun c7 => ?_) (fun c7 => ?_)
    · refine lv_iconst (v := nI 1) X.x X.b d_X_sheet_22 (by decide) ?_
      refine lv_goto (tgt := 27) X.x X.b d_X_sheet_23 (by decide) ?_
      refine lv_istore (lv' := [(4, .int (nI 1)), (0, .ref (eA E 0)), (1, .int x), (2, .int y), (3, .int z)]) X.x X.b d_X_sheet_27 hl (by decide) rfl (fun ls hl => ?_)
      refine lv_iload_n X.x X.b d_X_sheet_29 rfl (lv_at hl 2 rfl) ?_
      refine lv_iconst (v := nI 0) X.x X.b d_X_sheet_30 (by decide) ?_
      refine lv_iconst (v := nI 3) X.x X.b d_X_sheet_31 (by decide) ?_
      refine q_csi X (c_X_within l E S x (nI 0) (nI 3)) hW ok_X_within mw_209 ⟨by decide, by decide⟩ (As := [.int x, .int (nI 0), .int (nI 3)]) rfl rfl (Nat.le_of_ble_eq_true rfl) (lv := [(4, .int (nI 1)), (0, .ref (eA E 0)), (1, .int x), (2, .int y), (3, .int z)]) hl ⟨Nat.le_refl 0, Nat.le_refl 0⟩ d_X_sheet_32 (fun H locs hW => ?_)
      refine lv_if_eq (tgt := 43) X.x X.b d_X_sheet_35 (by decide) (fun c35 => ?_) (fun c35 => ?_)
      · have c35 := b2i_e c35
        refine lv_aload_n X.x X.b d_X_sheet_43 rfl (lv_at hl 1 rfl) ?_
        refine lv_ldc (v := (-1000001)) X.x X.b X.ow (X.ts _ mw_212) d_X_sheet_44 ?_
        refine q_cvi X (c_X_told_0 l E S φ (by rw [hφ])) hW (q_recv X hW ds_X rfl) ok_X_told mw_213 ⟨by decide, by decide⟩ (As := [.int (-1000001)]) rfl rfl (Nat.le_of_ble_eq_true rfl) (lv := [(4, .int (nI 1)), (0, .ref (eA E 0)), (1, .int x), (2, .int y), (3, .int z)]) hl ⟨Nat.le_refl 0, Nat.le_refl 0⟩ d_X_sheet_46 (fun H locs hW => ?_)
        have hW : qWH E (qr S 14 (fnS φ 0)) s H locs := hW
        exact q_zret X rfl hW ⟨rfl, rfl⟩ d_X_sheet_49
      · have c35 := b2i_n c35
        refine lv_iload X.x X.b d_X_sheet_38 (lv_at hl 0 rfl) ?_
        refine lv_if_ne (tgt := 50) X.x X.b d_X_sheet_40 (by decide) (fun c40 => ?_) (fun c40 => ?_)
        · have c40 : ¬ 1 = 0 := fun z => c40 ((nI_eq (a := 1) (b := 0) (by omega) (by omega)).mpr z)
          exact absurd ⟨c35, Or.inl (Or.inl (Or.inr c7))⟩ h
        · exact absurd c40 (by decide)
    · refine lv_iload_n X.x X.b d_X_sheet_10 rfl (lv_at hl 2 rfl) ?_
      refine lv_bipush (v := nI 16) X.x X.b d_X_sheet_11 (by decide) ?_
      refine lv_icmp_eq (tgt := 22) X.x X.b d_X_sheet_13 (by decide) (fun c13 => ?_) (fun c13 => ?_)
      · refine lv_iconst (v := nI 1) X.x X.b d_X_sheet_22 (by decide) ?_
        refine lv_goto (tgt := 27) X.x X.b d_X_sheet_23 (by decide) ?_
        refine lv_istore (lv' := [(4, .int (nI 1)), (0, .ref (eA E 0)), (1, .int x), (2, .int y), (3, .int z)]) X.x X.b d_X_sheet_27 hl (by decide) rfl (fun ls hl => ?_)
        refine lv_iload_n X.x X.b d_X_sheet_29 rfl (lv_at hl 2 rfl) ?_
        refine lv_iconst (v := nI 0) X.x X.b d_X_sheet_30 (by decide) ?_
        refine lv_iconst (v := nI 3) X.x X.b d_X_sheet_31 (by decide) ?_
        refine q_csi X (c_X_within l E S x (nI 0) (nI 3)) hW ok_X_within mw_209 ⟨by decide, by decide⟩ (As := [.int x, .int (nI 0), .int (nI 3)]) rfl rfl (Nat.le_of_ble_eq_true rfl) (lv := [(4, .int (nI 1)), (0, .ref (eA E 0)), (1, .int x), (2, .int y), (3, .int z)]) hl ⟨Nat.le_refl 0, Nat.le_refl 0⟩ d_X_sheet_32 (fun H locs hW => ?_)
        refine lv_if_eq (tgt := 43) X.x X.b d_X_sheet_35 (by decide) (fun c35 => ?_) (fun c35 => ?_)
        · have c35 := b2i_e c35
          refine lv_aload_n X.x X.b d_X_sheet_43 rfl (lv_at hl 1 rfl) ?_
          refine lv_ldc (v := (-1000001)) X.x X.b X.ow (X.ts _ mw_212) d_X_sheet_44 ?_
          refine q_cvi X (c_X_told_0 l E S φ (by rw [hφ])) hW (q_recv X hW ds_X rfl) ok_X_told mw_213 ⟨by decide, by decide⟩ (As := [.int (-1000001)]) rfl rfl (Nat.le_of_ble_eq_true rfl) (lv := [(4, .int (nI 1)), (0, .ref (eA E 0)), (1, .int x), (2, .int y), (3, .int z)]) hl ⟨Nat.le_refl 0, Nat.le_refl 0⟩ d_X_sheet_46 (fun H locs hW => ?_)
          have hW : qWH E (qr S 14 (fnS φ 0)) s H locs := hW
          exact q_zret X rfl hW ⟨rfl, rfl⟩ d_X_sheet_49
        · have c35 := b2i_n c35
          refine lv_iload X.x X.b d_X_sheet_38 (lv_at hl 0 rfl) ?_
          refine lv_if_ne (tgt := 50) X.x X.b d_X_sheet_40 (by decide) (fun c40 => ?_) (fun c40 => ?_)
          · have c40 : ¬ 1 = 0 := fun z => c40 ((nI_eq (a := 1) (b := 0) (by omega) (by omega)).mpr z)
            exact absurd ⟨c35, Or.inl (Or.inr c13)⟩ h
          · exact absurd c40 (by decide)
      · refine lv_iload_n X.x X.b d_X_sheet_16 rfl (lv_at hl 2 rfl) ?_
        refine lv_bipush (v := nI 32) X.x X.b d_X_sheet_17 (by decide) ?_
        refine lv_icmp_ne (tgt := 26) X.x X.b d_X_sheet_19 (by decide) (fun c19 => ?_) (fun c19 => ?_)
        · refine lv_iconst (v := nI 0) X.x X.b d_X_sheet_26 (by decide) ?_
          refine lv_istore (lv' := [(4, .int (nI 0)), (0, .ref (eA E 0)), (1, .int x), (2, .int y), (3, .int z)]) X.x X.b d_X_sheet_27 hl (by decide) rfl (fun ls hl => ?_)
          refine lv_iload_n X.x X.b d_X_sheet_29 rfl (lv_at hl 2 rfl) ?_
          refine lv_iconst (v := nI 0) X.x X.b d_X_sheet_30 (by decide) ?_
          refine lv_iconst (v := nI 3) X.x X.b d_X_sheet_31 (by decide) ?_
          refine q_csi X (c_X_within l E S x (nI 0) (nI 3)) hW ok_X_within mw_209 ⟨by decide, by decide⟩ (As := [.int x, .int (nI 0), .int (nI 3)]) rfl rfl (Nat.le_of_ble_eq_true rfl) (lv := [(4, .int (nI 0)), (0, .ref (eA E 0)), (1, .int x), (2, .int y), (3, .int z)]) hl ⟨Nat.le_refl 0, Nat.le_refl 0⟩ d_X_sheet_32 (fun H locs hW => ?_)
          refine lv_if_eq (tgt := 43) X.x X.b d_X_sheet_35 (by decide) (fun c35 => ?_) (fun c35 => ?_)
          · have c35 := b2i_e c35
            refine lv_aload_n X.x X.b d_X_sheet_43 rfl (lv_at hl 1 rfl) ?_
            refine lv_ldc (v := (-1000001)) X.x X.b X.ow (X.ts _ mw_212) d_X_sheet_44 ?_
            refine q_cvi X (c_X_told_0 l E S φ (by rw [hφ])) hW (q_recv X hW ds_X rfl) ok_X_told mw_213 ⟨by decide, by decide⟩ (As := [.int (-1000001)]) rfl rfl (Nat.le_of_ble_eq_true rfl) (lv := [(4, .int (nI 0)), (0, .ref (eA E 0)), (1, .int x), (2, .int y), (3, .int z)]) hl ⟨Nat.le_refl 0, Nat.le_refl 0⟩ d_X_sheet_46 (fun H locs hW => ?_)
            have hW : qWH E (qr S 14 (fnS φ 0)) s H locs := hW
            exact q_zret X rfl hW ⟨rfl, rfl⟩ d_X_sheet_49
          · have c35 := b2i_n c35
            refine lv_iload X.x X.b d_X_sheet_38 (lv_at hl 0 rfl) ?_
            refine lv_if_ne (tgt := 50) X.x X.b d_X_sheet_40 (by decide) (fun c40 => ?_) (fun c40 => ?_)
            · exact absurd (by decide) c40
            · have c40 : 0 = 0 := (nI_eq (a := 0) (b := 0) (by omega) (by omega)).mp c40
              refine lv_aload_n X.x X.b d_X_sheet_43 rfl (lv_at hl 1 rfl) ?_
              refine lv_ldc (v := (-1000001)) X.x X.b X.ow (X.ts _ mw_212) d_X_sheet_44 ?_
              refine q_cvi X (c_X_told_0 l E S φ (by rw [hφ])) hW (q_recv X hW ds_X rfl) ok_X_told mw_213 ⟨by decide, by decide⟩ (As := [.int (-1000001)]) rfl rfl (Nat.le_of_ble_eq_true rfl) (lv := [(4, .int (nI 0)), (0, .ref (eA E 0)), (1, .int x), (2, .int y), (3, .int z)]) hl ⟨Nat.le_refl 0, Nat.le_refl 0⟩ d_X_sheet_46 (fun H locs hW => ?_)
              have hW : qWH E (qr S 14 (fnS φ 0)) s H locs := hW
              exact q_zret X rfl hW ⟨rfl, rfl⟩ d_X_sheet_49
        · refine lv_iconst (v := nI 1) X.x X.b d_X_sheet_22 (by decide) ?_
          refine lv_goto (tgt := 27) X.x X.b d_X_sheet_23 (by decide) ?_
          refine lv_istore (lv' := [(4, .int (nI 1)), (0, .ref (eA E 0)), (1, .int x), (2, .int y), (3, .int z)]) X.x X.b d_X_sheet_27 hl (by decide) rfl (fun ls hl => ?_)
          refine lv_iload_n X.x X.b d_X_sheet_29 rfl (lv_at hl 2 rfl) ?_
          refine lv_iconst (v := nI 0) X.x X.b d_X_sheet_30 (by decide) ?_
          refine lv_iconst (v := nI 3) X.x X.b d_X_sheet_31 (by decide) ?_
          refine q_csi X (c_X_within l E S x (nI 0) (nI 3)) hW ok_X_within mw_209 ⟨by decide, by decide⟩ (As := [.int x, .int (nI 0), .int (nI 3)]) rfl rfl (Nat.le_of_ble_eq_true rfl) (lv := [(4, .int (nI 1)), (0, .ref (eA E 0)), (1, .int x), (2, .int y), (3, .int z)]) hl ⟨Nat.le_refl 0, Nat.le_refl 0⟩ d_X_sheet_32 (fun H locs hW => ?_)
          refine lv_if_eq (tgt := 43) X.x X.b d_X_sheet_35 (by decide) (fun c35 => ?_) (fun c35 => ?_)
          · have c35 := b2i_e c35
            refine lv_aload_n X.x X.b d_X_sheet_43 rfl (lv_at hl 1 rfl) ?_
            refine lv_ldc (v := (-1000001)) X.x X.b X.ow (X.ts _ mw_212) d_X_sheet_44 ?_
            refine q_cvi X (c_X_told_0 l E S φ (by rw [hφ])) hW (q_recv X hW ds_X rfl) ok_X_told mw_213 ⟨by decide, by decide⟩ (As := [.int (-1000001)]) rfl rfl (Nat.le_of_ble_eq_true rfl) (lv := [(4, .int (nI 1)), (0, .ref (eA E 0)), (1, .int x), (2, .int y), (3, .int z)]) hl ⟨Nat.le_refl 0, Nat.le_refl 0⟩ d_X_sheet_46 (fun H locs hW => ?_)
            have hW : qWH E (qr S 14 (fnS φ 0)) s H locs := hW
            exact q_zret X rfl hW ⟨rfl, rfl⟩ d_X_sheet_49
          · have c35 := b2i_n c35
            refine lv_iload X.x X.b d_X_sheet_38 (lv_at hl 0 rfl) ?_
            refine lv_if_ne (tgt := 50) X.x X.b d_X_sheet_40 (by decide) (fun c40 => ?_) (fun c40 => ?_)
            · have c40 : ¬ 1 = 0 := fun z => c40 ((nI_eq (a := 1) (b := 0) (by omega) (by omega)).mpr z)
              exact absurd ⟨c35, Or.inr c19⟩ h
            · exact absurd c40 (by decide)
set_option maxHeartbeats 1000000 in
set_option maxRecDepth 20000 in
theorem c_X_write_g (l : Launch) (E : QE) (S : QM) (ρ φ : Nat → Int32) (hρ : S 0 = ρ) (hφ : S 14 = φ) (hwf : WF ρ) (j sz : Nat) (β σ : Nat → Int32) (hj : j < 4) (hβ : S (6 + j) = β) (hσ : S (10 + j) = σ) (hb : ¬ β 1 = 0) (hs2 : β 2 = nI sz) (hsz : sz ≤ 40) (i : Nat) (hi : i < sz) (v : Int32) : qCI E l y_X_write prog_1_method_35_code 5 .int 3 [.ref (eA E 0), .int (nI j), .int (nI i), .int v] S (nI 1) (qr S (10 + j) (upd σ i (cutS (β 1) v))) := by
  refine qCI_of (by decide) (Nat.le_of_ble_eq_true rfl) (fun p e s m below meth c ls X hW hl => ?_)
  have hl : lv_has ls 5 [(0, .ref (eA E 0)), (1, .int (nI j)), (2, .int (nI i)), (3, .int v)] := hl
  have htl := hwf.tl
  have hwl := hwf.wl
  have hdl := hwf.dl
  refine lv_aload_n X.x X.b d_X_write_0 rfl (lv_at hl 0 rfl) ?_
  refine lv_iload_n X.x X.b d_X_write_1 rfl (lv_at hl 1 rfl) ?_
  refine q_cvi X (c_X_lackOf_c l E S j β hj (by rw [hβ]) hb) hW (q_recv X hW ds_X rfl) ok_X_lackOf mw_437 ⟨by decide, by decide⟩ (As := [.int (nI j)]) rfl rfl (Nat.le_of_ble_eq_true rfl) (lv := [(0, .ref (eA E 0)), (1, .int (nI j)), (2, .int (nI i)), (3, .int v)]) hl ⟨Nat.le_refl 0, Nat.le_refl 0⟩ d_X_write_2 (fun H locs hW => ?_)
  refine lv_istore (lv' := [(4, .int (nI 0)), (0, .ref (eA E 0)), (1, .int (nI j)), (2, .int (nI i)), (3, .int v)]) X.x X.b d_X_write_5 hl (by decide) rfl (fun ls hl => ?_)
  refine lv_iload X.x X.b d_X_write_7 (lv_at hl 0 rfl) ?_
  refine lv_if_eq (tgt := 19) X.x X.b d_X_write_9 (by decide) (fun c9 => ?_) (fun c9 => ?_)
  · have c9 : 0 = 0 := (nI_eq (a := 0) (b := 0) (by omega) (by omega)).mp c9
    refine lv_iload_n X.x X.b d_X_write_19 rfl (lv_at hl 3 rfl) ?_
    refine lv_iconst (v := nI 0) X.x X.b d_X_write_20 (by decide) ?_
    refine lv_aload_n X.x X.b d_X_write_21 rfl (lv_at hl 1 rfl) ?_
    refine q_getr X hW qj3 rfl _ ds_X 5 (by decide) mw_188 rfl (c1 := 60) rfl d_X_write_22 ?_
    refine lv_iload_n X.x X.b d_X_write_25 rfl (lv_at hl 2 rfl) ?_
    refine g_ss X hW (show j < 4 by omega) d_X_write_26 ?_
    refine g_geti X hW qj1 rfl _ (ds_s (j := j) (by omega)) 2 (by decide) mw_175 rfl (r0 := 6 + j) (p0 := 2) rfl (v := β 2) (by rw [hβ]) d_X_write_27 ?_
    rw [hs2]
    refine lv_iconst (v := nI 1) X.x X.b d_X_write_30 (by decide) ?_
    refine lv_isub X.x X.b d_X_write_31 ?_
    refine q_csi X (c_X_within l E S (nI i) (nI 0) ((nI sz) - (nI 1))) hW ok_X_within mw_209 ⟨by decide, by decide⟩ (As := [.int (nI i), .int (nI 0), .int ((nI sz) - (nI 1))]) rfl rfl (Nat.le_of_ble_eq_true rfl) (lv := [(4, .int (nI 0)), (0, .ref (eA E 0)), (1, .int (nI j)), (2, .int (nI i)), (3, .int v)]) hl ⟨Nat.le_refl 0, Nat.le_refl 0⟩ d_X_write_32 (fun H locs hW => ?_)
    refine lv_if_ne (tgt := 45) X.x X.b d_X_write_35 (by decide) (fun c35 => ?_) (fun c35 => ?_)
    · have c35 := b2i_n c35
      refine lv_aload_n X.x X.b d_X_write_45 rfl (lv_at hl 1 rfl) ?_
      refine q_getr X hW qj3 rfl _ ds_X 5 (by decide) mw_188 rfl (c1 := 60) rfl d_X_write_46 ?_
      refine lv_iload_n X.x X.b d_X_write_49 rfl (lv_at hl 2 rfl) ?_
      refine g_ss X hW (show j < 4 by omega) d_X_write_50 ?_
      refine lv_iload_n X.x X.b d_X_write_51 rfl (lv_at hl 3 rfl) ?_
      refine lv_iload_n X.x X.b d_X_write_52 rfl (lv_at hl 4 rfl) ?_
      refine q_cvv X (c_Sh_put l E S j β σ (by omega) (by rw [hβ]) (by rw [hσ]) i v (by omega)) hW (q_recv X hW (ds_s (j := j) (by omega)) rfl) ok_Sh_put mw_626 ⟨by decide, by decide⟩ (As := [.int (nI i), .int v]) rfl rfl (Nat.le_of_ble_eq_true rfl) (lv := [(4, .int (nI 0)), (0, .ref (eA E 0)), (1, .int (nI j)), (2, .int (nI i)), (3, .int v)]) hl ⟨Nat.le_refl 0, Nat.le_refl 0⟩ d_X_write_53 (fun H locs hW => ?_)
      have hW : qWH E (qr S (10 + j) (upd σ i (cutS (β 1) v))) s H locs := hW
      refine lv_iconst (v := nI 1) X.x X.b d_X_write_56 (by decide) ?_
      exact q_zret X rfl hW ⟨rfl, rfl⟩ d_X_write_57
    · have c35 := b2i_e c35
      exact absurd ⟨nI_pos2 (by omega), ile_sub (by omega) (by omega)⟩ c35
  · exact absurd (by decide) c9
set_option maxHeartbeats 1000000 in
set_option maxRecDepth 20000 in
theorem c_X_write_la (l : Launch) (E : QE) (S : QM) (ρ φ : Nat → Int32) (hρ : S 0 = ρ) (hφ : S 14 = φ) (hwf : WF ρ) (x : Int32) (y z : Int32) (h : ¬ inR 0 3 x) : qCI E l y_X_write prog_1_method_35_code 5 .int 3 [.ref (eA E 0), .int x, .int y, .int z] S (-1000001) (qr S 14 (fnS φ 0)) := by
  refine qCI_of (by decide) (Nat.le_of_ble_eq_true rfl) (fun p e s m below meth c ls X hW hl => ?_)
  have hl : lv_has ls 5 [(0, .ref (eA E 0)), (1, .int x), (2, .int y), (3, .int z)] := hl
  have htl := hwf.tl
  have hwl := hwf.wl
  have hdl := hwf.dl
  refine lv_aload_n X.x X.b d_X_write_0 rfl (lv_at hl 0 rfl) ?_
  refine lv_iload_n X.x X.b d_X_write_1 rfl (lv_at hl 1 rfl) ?_
  refine q_cvi X (c_X_lackOf_a l E S x h) hW (q_recv X hW ds_X rfl) ok_X_lackOf mw_437 ⟨by decide, by decide⟩ (As := [.int x]) rfl rfl (Nat.le_of_ble_eq_true rfl) (lv := [(0, .ref (eA E 0)), (1, .int x), (2, .int y), (3, .int z)]) hl ⟨Nat.le_refl 0, Nat.le_refl 0⟩ d_X_write_2 (fun H locs hW => ?_)
  refine lv_istore (lv' := [(4, .int (-1000001)), (0, .ref (eA E 0)), (1, .int x), (2, .int y), (3, .int z)]) X.x X.b d_X_write_5 hl (by decide) rfl (fun ls hl => ?_)
  refine lv_iload X.x X.b d_X_write_7 (lv_at hl 0 rfl) ?_
  refine lv_if_eq (tgt := 19) X.x X.b d_X_write_9 (by decide) (fun c9 => ?_) (fun c9 => ?_)
  · exact absurd c9 (by decide)
  · refine lv_aload_n X.x X.b d_X_write_12 rfl (lv_at hl 1 rfl) ?_
    refine lv_iload X.x X.b d_X_write_13 (lv_at hl 0 rfl) ?_
    refine q_cvi X (c_X_told_0 l E S φ (by rw [hφ])) hW (q_recv X hW ds_X rfl) ok_X_told mw_213 ⟨by decide, by decide⟩ (As := [.int (-1000001)]) rfl rfl (Nat.le_of_ble_eq_true rfl) (lv := [(4, .int (-1000001)), (0, .ref (eA E 0)), (1, .int x), (2, .int y), (3, .int z)]) hl ⟨Nat.le_refl 0, Nat.le_refl 0⟩ d_X_write_15 (fun H locs hW => ?_)
    have hW : qWH E (qr S 14 (fnS φ 0)) s H locs := hW
    exact q_zret X rfl hW ⟨rfl, rfl⟩ d_X_write_18
set_option maxHeartbeats 1000000 in
set_option maxRecDepth 20000 in
theorem c_X_write_lb (l : Launch) (E : QE) (S : QM) (ρ φ : Nat → Int32) (hρ : S 0 = ρ) (hφ : S 14 = φ) (hwf : WF ρ) (j : Nat) (β : Nat → Int32) (hj : j < 4) (hβ : S (6 + j) = β) (hb : β 1 = 0) (y z : Int32) : qCI E l y_X_write prog_1_method_35_code 5 .int 3 [.ref (eA E 0), .int (nI j), .int y, .int z] S (-1000006) (qr S 14 (fnS φ 5)) := by
  refine qCI_of (by decide) (Nat.le_of_ble_eq_true rfl) (fun p e s m below meth c ls X hW hl => ?_)
  have hl : lv_has ls 5 [(0, .ref (eA E 0)), (1, .int (nI j)), (2, .int y), (3, .int z)] := hl
  have htl := hwf.tl
  have hwl := hwf.wl
  have hdl := hwf.dl
  refine lv_aload_n X.x X.b d_X_write_0 rfl (lv_at hl 0 rfl) ?_
  refine lv_iload_n X.x X.b d_X_write_1 rfl (lv_at hl 1 rfl) ?_
  refine q_cvi X (c_X_lackOf_b l E S j β hj (by rw [hβ]) hb) hW (q_recv X hW ds_X rfl) ok_X_lackOf mw_437 ⟨by decide, by decide⟩ (As := [.int (nI j)]) rfl rfl (Nat.le_of_ble_eq_true rfl) (lv := [(0, .ref (eA E 0)), (1, .int (nI j)), (2, .int y), (3, .int z)]) hl ⟨Nat.le_refl 0, Nat.le_refl 0⟩ d_X_write_2 (fun H locs hW => ?_)
  refine lv_istore (lv' := [(4, .int (-1000006)), (0, .ref (eA E 0)), (1, .int (nI j)), (2, .int y), (3, .int z)]) X.x X.b d_X_write_5 hl (by decide) rfl (fun ls hl => ?_)
  refine lv_iload X.x X.b d_X_write_7 (lv_at hl 0 rfl) ?_
  refine lv_if_eq (tgt := 19) X.x X.b d_X_write_9 (by decide) (fun c9 => ?_) (fun c9 => ?_)
  · exact absurd c9 (by decide)
  · refine lv_aload_n X.x X.b d_X_write_12 rfl (lv_at hl 1 rfl) ?_
    refine lv_iload X.x X.b d_X_write_13 (lv_at hl 0 rfl) ?_
    refine q_cvi X (c_X_told_5 l E S φ (by rw [hφ])) hW (q_recv X hW ds_X rfl) ok_X_told mw_213 ⟨by decide, by decide⟩ (As := [.int (-1000006)]) rfl rfl (Nat.le_of_ble_eq_true rfl) (lv := [(4, .int (-1000006)), (0, .ref (eA E 0)), (1, .int (nI j)), (2, .int y), (3, .int z)]) hl ⟨Nat.le_refl 0, Nat.le_refl 0⟩ d_X_write_15 (fun H locs hW => ?_)
    have hW : qWH E (qr S 14 (fnS φ 5)) s H locs := hW
    exact q_zret X rfl hW ⟨rfl, rfl⟩ d_X_write_18
set_option maxHeartbeats 1000000 in
set_option maxRecDepth 20000 in
theorem c_X_write_b (l : Launch) (E : QE) (S : QM) (ρ φ : Nat → Int32) (hρ : S 0 = ρ) (hφ : S 14 = φ) (hwf : WF ρ) (j sz : Nat) (β σ : Nat → Int32) (hj : j < 4) (hβ : S (6 + j) = β) (hσ : S (10 + j) = σ) (hb : ¬ β 1 = 0) (hs2 : β 2 = nI sz) (hsz : sz ≤ 40) (y v : Int32) (h : ¬ (nI 0 ≤ y ∧ y ≤ nI sz - nI 1)) : qCI E l y_X_write prog_1_method_35_code 5 .int 3 [.ref (eA E 0), .int (nI j), .int y, .int v] S (-1000001) (qr S 14 (fnS φ 0)) := by
  refine qCI_of (by decide) (Nat.le_of_ble_eq_true rfl) (fun p e s m below meth c ls X hW hl => ?_)
  have hl : lv_has ls 5 [(0, .ref (eA E 0)), (1, .int (nI j)), (2, .int y), (3, .int v)] := hl
  have htl := hwf.tl
  have hwl := hwf.wl
  have hdl := hwf.dl
  refine lv_aload_n X.x X.b d_X_write_0 rfl (lv_at hl 0 rfl) ?_
  refine lv_iload_n X.x X.b d_X_write_1 rfl (lv_at hl 1 rfl) ?_
  refine q_cvi X (c_X_lackOf_c l E S j β hj (by rw [hβ]) hb) hW (q_recv X hW ds_X rfl) ok_X_lackOf mw_437 ⟨by decide, by decide⟩ (As := [.int (nI j)]) rfl rfl (Nat.le_of_ble_eq_true rfl) (lv := [(0, .ref (eA E 0)), (1, .int (nI j)), (2, .int y), (3, .int v)]) hl ⟨Nat.le_refl 0, Nat.le_refl 0⟩ d_X_write_2 (fun H locs hW => ?_)
  refine lv_istore (lv' := [(4, .int (nI 0)), (0, .ref (eA E 0)), (1, .int (nI j)), (2, .int y), (3, .int v)]) X.x X.b d_X_write_5 hl (by decide) rfl (fun ls hl => ?_)
  refine lv_iload X.x X.b d_X_write_7 (lv_at hl 0 rfl) ?_
  refine lv_if_eq (tgt := 19) X.x X.b d_X_write_9 (by decide) (fun c9 => ?_) (fun c9 => ?_)
  · have c9 : 0 = 0 := (nI_eq (a := 0) (b := 0) (by omega) (by omega)).mp c9
    refine lv_iload_n X.x X.b d_X_write_19 rfl (lv_at hl 3 rfl) ?_
    refine lv_iconst (v := nI 0) X.x X.b d_X_write_20 (by decide) ?_
    refine lv_aload_n X.x X.b d_X_write_21 rfl (lv_at hl 1 rfl) ?_
    refine q_getr X hW qj3 rfl _ ds_X 5 (by decide) mw_188 rfl (c1 := 60) rfl d_X_write_22 ?_
    refine lv_iload_n X.x X.b d_X_write_25 rfl (lv_at hl 2 rfl) ?_
    refine g_ss X hW (show j < 4 by omega) d_X_write_26 ?_
    refine g_geti X hW qj1 rfl _ (ds_s (j := j) (by omega)) 2 (by decide) mw_175 rfl (r0 := 6 + j) (p0 := 2) rfl (v := β 2) (by rw [hβ]) d_X_write_27 ?_
    rw [hs2]
    refine lv_iconst (v := nI 1) X.x X.b d_X_write_30 (by decide) ?_
    refine lv_isub X.x X.b d_X_write_31 ?_
    refine q_csi X (c_X_within l E S y (nI 0) ((nI sz) - (nI 1))) hW ok_X_within mw_209 ⟨by decide, by decide⟩ (As := [.int y, .int (nI 0), .int ((nI sz) - (nI 1))]) rfl rfl (Nat.le_of_ble_eq_true rfl) (lv := [(4, .int (nI 0)), (0, .ref (eA E 0)), (1, .int (nI j)), (2, .int y), (3, .int v)]) hl ⟨Nat.le_refl 0, Nat.le_refl 0⟩ d_X_write_32 (fun H locs hW => ?_)
    refine lv_if_ne (tgt := 45) X.x X.b d_X_write_35 (by decide) (fun c35 => ?_) (fun c35 => ?_)
    · have c35 := b2i_n c35
      exact absurd c35 h
    · have c35 := b2i_e c35
      refine lv_aload_n X.x X.b d_X_write_38 rfl (lv_at hl 1 rfl) ?_
      refine lv_ldc (v := (-1000001)) X.x X.b X.ow (X.ts _ mw_212) d_X_write_39 ?_
      refine q_cvi X (c_X_told_0 l E S φ (by rw [hφ])) hW (q_recv X hW ds_X rfl) ok_X_told mw_213 ⟨by decide, by decide⟩ (As := [.int (-1000001)]) rfl rfl (Nat.le_of_ble_eq_true rfl) (lv := [(4, .int (nI 0)), (0, .ref (eA E 0)), (1, .int (nI j)), (2, .int y), (3, .int v)]) hl ⟨Nat.le_refl 0, Nat.le_refl 0⟩ d_X_write_41 (fun H locs hW => ?_)
      have hW : qWH E (qr S 14 (fnS φ 0)) s H locs := hW
      exact q_zret X rfl hW ⟨rfl, rfl⟩ d_X_write_44
  · exact absurd (by decide) c9
