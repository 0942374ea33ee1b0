theorem d_R_isSo_0 : decode prog_7_method_73_code 0 = .ok (.aload_n 0, 1) := by decide +kernel
theorem d_R_isSo_1 : decode prog_7_method_73_code 1 = .ok (.getfield 9, 3) := by decide +kernel
theorem d_R_isSo_4 : decode prog_7_method_73_code 4 = .ok (.aload_n 0, 1) := by decide +kernel
theorem d_R_isSo_5 : decode prog_7_method_73_code 5 = .ok (.getfield 16, 3) := by decide +kernel
theorem d_R_isSo_8 : decode prog_7_method_73_code 8 = .ok (.invokestatic 61, 3) := by decide +kernel
theorem d_R_isSo_11 : decode prog_7_method_73_code 11 = .ok (.iconst 1, 1) := by decide +kernel
theorem d_R_isSo_12 : decode prog_7_method_73_code 12 = .ok (.istore_n 3, 1) := by decide +kernel
theorem d_R_isSo_13 : decode prog_7_method_73_code 13 = .ok (.iconst 0, 1) := by decide +kernel
theorem d_R_isSo_14 : decode prog_7_method_73_code 14 = .ok (.istore 4, 2) := by decide +kernel
theorem d_R_isSo_16 : decode prog_7_method_73_code 16 = .ok (.iload 4, 2) := by decide +kernel
theorem d_R_isSo_18 : decode prog_7_method_73_code 18 = .ok (.aload_n 0, 1) := by decide +kernel
theorem d_R_isSo_19 : decode prog_7_method_73_code 19 = .ok (.getfield 51, 3) := by decide +kernel
theorem d_R_isSo_22 : decode prog_7_method_73_code 22 = .ok (.iload_n 1, 1) := by decide +kernel
theorem d_R_isSo_23 : decode prog_7_method_73_code 23 = .ok (.iaload, 1) := by decide +kernel
theorem d_R_isSo_24 : decode prog_7_method_73_code 24 = .ok (.if_icmp .ge 54, 3) := by decide +kernel
theorem d_R_isSo_27 : decode prog_7_method_73_code 27 = .ok (.iload_n 3, 1) := by decide +kernel
theorem d_R_isSo_28 : decode prog_7_method_73_code 28 = .ok (.ifCond .eq 50, 3) := by decide +kernel
theorem d_R_isSo_31 : decode prog_7_method_73_code 31 = .ok (.aload_n 0, 1) := by decide +kernel
theorem d_R_isSo_32 : decode prog_7_method_73_code 32 = .ok (.getfield 54, 3) := by decide +kernel
theorem d_R_isSo_35 : decode prog_7_method_73_code 35 = .ok (.bipush 40, 2) := by decide +kernel
theorem d_R_isSo_37 : decode prog_7_method_73_code 37 = .ok (.iload_n 1, 1) := by decide +kernel
theorem d_R_isSo_38 : decode prog_7_method_73_code 38 = .ok (.imul, 1) := by decide +kernel
theorem d_R_isSo_39 : decode prog_7_method_73_code 39 = .ok (.iload 4, 2) := by decide +kernel
theorem d_R_isSo_41 : decode prog_7_method_73_code 41 = .ok (.iadd, 1) := by decide +kernel
theorem d_R_isSo_42 : decode prog_7_method_73_code 42 = .ok (.iaload, 1) := by decide +kernel
theorem d_R_isSo_43 : decode prog_7_method_73_code 43 = .ok (.istore 5, 2) := by decide +kernel
theorem d_R_isSo_45 : decode prog_7_method_73_code 45 = .ok (.aload_n 0, 1) := by decide +kernel
theorem d_R_isSo_46 : decode prog_7_method_73_code 46 = .ok (.invokevirtual 182, 3) := by decide +kernel
theorem d_R_isSo_49 : decode prog_7_method_73_code 49 = .ok (.iload 5, 2) := by decide +kernel
theorem d_R_isSo_51 : decode prog_7_method_73_code 51 = .ok (.iconst (-1), 1) := by decide +kernel
theorem d_R_isSo_52 : decode prog_7_method_73_code 52 = .ok (.if_icmp .eq 14, 3) := by decide +kernel
theorem d_R_isSo_55 : decode prog_7_method_73_code 55 = .ok (.iload 5, 2) := by decide +kernel
theorem d_R_isSo_57 : decode prog_7_method_73_code 57 = .ok (.aload_n 0, 1) := by decide +kernel
theorem d_R_isSo_58 : decode prog_7_method_73_code 58 = .ok (.getfield 9, 3) := by decide +kernel
theorem d_R_isSo_61 : decode prog_7_method_73_code 61 = .ok (.iload_n 2, 1) := by decide +kernel
theorem d_R_isSo_62 : decode prog_7_method_73_code 62 = .ok (.iaload, 1) := by decide +kernel
theorem d_R_isSo_63 : decode prog_7_method_73_code 63 = .ok (.if_icmp .ne 7, 3) := by decide +kernel
theorem d_R_isSo_66 : decode prog_7_method_73_code 66 = .ok (.iconst 1, 1) := by decide +kernel
theorem d_R_isSo_67 : decode prog_7_method_73_code 67 = .ok (.goto 4, 3) := by decide +kernel
theorem d_R_isSo_70 : decode prog_7_method_73_code 70 = .ok (.iconst 0, 1) := by decide +kernel
theorem d_R_isSo_71 : decode prog_7_method_73_code 71 = .ok (.istore_n 3, 1) := by decide +kernel
theorem d_R_isSo_72 : decode prog_7_method_73_code 72 = .ok (.iinc 4 1, 3) := by decide +kernel
theorem d_R_isSo_75 : decode prog_7_method_73_code 75 = .ok (.goto (-59), 3) := by decide +kernel
theorem d_R_isSo_78 : decode prog_7_method_73_code 78 = .ok (.aload_n 0, 1) := by decide +kernel
theorem d_R_isSo_79 : decode prog_7_method_73_code 79 = .ok (.getfield 16, 3) := by decide +kernel
theorem d_R_isSo_82 : decode prog_7_method_73_code 82 = .ok (.aload_n 0, 1) := by decide +kernel
theorem d_R_isSo_83 : decode prog_7_method_73_code 83 = .ok (.getfield 9, 3) := by decide +kernel
theorem d_R_isSo_86 : decode prog_7_method_73_code 86 = .ok (.invokestatic 61, 3) := by decide +kernel
theorem d_R_isSo_89 : decode prog_7_method_73_code 89 = .ok (.iload_n 3, 1) := by decide +kernel
theorem d_R_isSo_90 : decode prog_7_method_73_code 90 = .ok (.ireturn, 1) := by decide +kernel
theorem d_R_fitting_0 : decode prog_7_method_74_code 0 = .ok (.aload_n 0, 1) := by decide +kernel
theorem d_R_fitting_1 : decode prog_7_method_74_code 1 = .ok (.getfield 9, 3) := by decide +kernel
theorem d_R_fitting_4 : decode prog_7_method_74_code 4 = .ok (.iload_n 3, 1) := by decide +kernel
theorem d_R_fitting_5 : decode prog_7_method_74_code 5 = .ok (.iaload, 1) := by decide +kernel
theorem d_R_fitting_6 : decode prog_7_method_74_code 6 = .ok (.istore 5, 2) := by decide +kernel
theorem d_R_fitting_8 : decode prog_7_method_74_code 8 = .ok (.iconst 0, 1) := by decide +kernel
theorem d_R_fitting_9 : decode prog_7_method_74_code 9 = .ok (.istore 6, 2) := by decide +kernel
theorem d_R_fitting_11 : decode prog_7_method_74_code 11 = .ok (.iconst 0, 1) := by decide +kernel
theorem d_R_fitting_12 : decode prog_7_method_74_code 12 = .ok (.istore 7, 2) := by decide +kernel
theorem d_R_fitting_14 : decode prog_7_method_74_code 14 = .ok (.iload 7, 2) := by decide +kernel
theorem d_R_fitting_16 : decode prog_7_method_74_code 16 = .ok (.iload 4, 2) := by decide +kernel
theorem d_R_fitting_18 : decode prog_7_method_74_code 18 = .ok (.if_icmp .ge 39, 3) := by decide +kernel
theorem d_R_fitting_21 : decode prog_7_method_74_code 21 = .ok (.aload_n 0, 1) := by decide +kernel
theorem d_R_fitting_22 : decode prog_7_method_74_code 22 = .ok (.getfield 9, 3) := by decide +kernel
theorem d_R_fitting_25 : decode prog_7_method_74_code 25 = .ok (.iload_n 3, 1) := by decide +kernel
theorem d_R_fitting_26 : decode prog_7_method_74_code 26 = .ok (.iload 7, 2) := by decide +kernel
theorem d_R_fitting_28 : decode prog_7_method_74_code 28 = .ok (.iastore, 1) := by decide +kernel
theorem d_R_fitting_29 : decode prog_7_method_74_code 29 = .ok (.iload 6, 2) := by decide +kernel
theorem d_R_fitting_31 : decode prog_7_method_74_code 31 = .ok (.aload_n 0, 1) := by decide +kernel
theorem d_R_fitting_32 : decode prog_7_method_74_code 32 = .ok (.iload_n 1, 1) := by decide +kernel
theorem d_R_fitting_33 : decode prog_7_method_74_code 33 = .ok (.iload_n 2, 1) := by decide +kernel
theorem d_R_fitting_34 : decode prog_7_method_74_code 34 = .ok (.invokevirtual 237, 3) := by decide +kernel
theorem d_R_fitting_37 : decode prog_7_method_74_code 37 = .ok (.ifCond .eq 10, 3) := by decide +kernel
theorem d_R_fitting_40 : decode prog_7_method_74_code 40 = .ok (.iconst 1, 1) := by decide +kernel
theorem d_R_fitting_41 : decode prog_7_method_74_code 41 = .ok (.iload 7, 2) := by decide +kernel
theorem d_R_fitting_43 : decode prog_7_method_74_code 43 = .ok (.ishl, 1) := by decide +kernel
theorem d_R_fitting_44 : decode prog_7_method_74_code 44 = .ok (.goto 4, 3) := by decide +kernel
theorem d_R_fitting_47 : decode prog_7_method_74_code 47 = .ok (.iconst 0, 1) := by decide +kernel
theorem d_R_fitting_48 : decode prog_7_method_74_code 48 = .ok (.ior, 1) := by decide +kernel
theorem d_R_fitting_49 : decode prog_7_method_74_code 49 = .ok (.istore 6, 2) := by decide +kernel
theorem d_R_fitting_51 : decode prog_7_method_74_code 51 = .ok (.iinc 7 1, 3) := by decide +kernel
theorem d_R_fitting_54 : decode prog_7_method_74_code 54 = .ok (.goto (-40), 3) := by decide +kernel
theorem d_R_fitting_57 : decode prog_7_method_74_code 57 = .ok (.aload_n 0, 1) := by decide +kernel
theorem d_R_fitting_58 : decode prog_7_method_74_code 58 = .ok (.getfield 9, 3) := by decide +kernel
theorem d_R_fitting_61 : decode prog_7_method_74_code 61 = .ok (.iload_n 3, 1) := by decide +kernel
theorem d_R_fitting_62 : decode prog_7_method_74_code 62 = .ok (.iload 5, 2) := by decide +kernel
theorem d_R_fitting_64 : decode prog_7_method_74_code 64 = .ok (.iastore, 1) := by decide +kernel
theorem d_R_fitting_65 : decode prog_7_method_74_code 65 = .ok (.iload 6, 2) := by decide +kernel
theorem d_R_fitting_67 : decode prog_7_method_74_code 67 = .ok (.ireturn, 1) := by decide +kernel
theorem d_R_fits_0 : decode prog_7_method_75_code 0 = .ok (.aload_n 0, 1) := by decide +kernel
theorem d_R_fits_1 : decode prog_7_method_75_code 1 = .ok (.iload_n 1, 1) := by decide +kernel
theorem d_R_fits_2 : decode prog_7_method_75_code 2 = .ok (.aload_n 0, 1) := by decide +kernel
theorem d_R_fits_3 : decode prog_7_method_75_code 3 = .ok (.iload_n 2, 1) := by decide +kernel
theorem d_R_fits_4 : decode prog_7_method_75_code 4 = .ok (.invokevirtual 122, 3) := by decide +kernel
theorem d_R_fits_7 : decode prog_7_method_75_code 7 = .ok (.invokevirtual 240, 3) := by decide +kernel
theorem d_R_fits_10 : decode prog_7_method_75_code 10 = .ok (.istore_n 3, 1) := by decide +kernel
theorem d_R_fits_11 : decode prog_7_method_75_code 11 = .ok (.iload_n 3, 1) := by decide +kernel
theorem d_R_fits_12 : decode prog_7_method_75_code 12 = .ok (.ifCond .eq 11, 3) := by decide +kernel
theorem d_R_fits_23 : decode prog_7_method_75_code 23 = .ok (.aload_n 0, 1) := by decide +kernel
theorem d_R_fits_24 : decode prog_7_method_75_code 24 = .ok (.iload_n 1, 1) := by decide +kernel
theorem d_R_fits_25 : decode prog_7_method_75_code 25 = .ok (.iload_n 2, 1) := by decide +kernel
theorem d_R_fits_26 : decode prog_7_method_75_code 26 = .ok (.iconst 0, 1) := by decide +kernel
theorem d_R_fits_27 : decode prog_7_method_75_code 27 = .ok (.invokestatic 88, 3) := by decide +kernel
theorem d_R_fits_30 : decode prog_7_method_75_code 30 = .ok (.iload_n 2, 1) := by decide +kernel
theorem d_R_fits_31 : decode prog_7_method_75_code 31 = .ok (.iconst 0, 1) := by decide +kernel
theorem d_R_fits_32 : decode prog_7_method_75_code 32 = .ok (.invokestatic 88, 3) := by decide +kernel
theorem d_R_fits_35 : decode prog_7_method_75_code 35 = .ok (.bipush 16, 2) := by decide +kernel
theorem d_R_fits_37 : decode prog_7_method_75_code 37 = .ok (.invokevirtual 244, 3) := by decide +kernel
theorem d_R_fits_40 : decode prog_7_method_75_code 40 = .ok (.ireturn, 1) := by decide +kernel
theorem d_R_fits_15 : decode prog_7_method_75_code 15 = .ok (.aload_n 0, 1) := by decide +kernel
theorem d_R_fits_16 : decode prog_7_method_75_code 16 = .ok (.iload_n 3, 1) := by decide +kernel
theorem d_R_fits_17 : decode prog_7_method_75_code 17 = .ok (.invokevirtual 66, 3) := by decide +kernel
theorem d_R_fits_20 : decode prog_7_method_75_code 20 = .ok (.goto 20, 3) := by decide +kernel
theorem d_R_kinds_0 : decode prog_7_method_76_code 0 = .ok (.aload_n 0, 1) := by decide +kernel
theorem d_R_kinds_1 : decode prog_7_method_76_code 1 = .ok (.iload_n 1, 1) := by decide +kernel
theorem d_R_kinds_2 : decode prog_7_method_76_code 2 = .ok (.aload_n 0, 1) := by decide +kernel
theorem d_R_kinds_3 : decode prog_7_method_76_code 3 = .ok (.iload_n 2, 1) := by decide +kernel
theorem d_R_kinds_4 : decode prog_7_method_76_code 4 = .ok (.invokevirtual 116, 3) := by decide +kernel
theorem d_R_kinds_7 : decode prog_7_method_76_code 7 = .ok (.invokevirtual 240, 3) := by decide +kernel
theorem d_R_kinds_10 : decode prog_7_method_76_code 10 = .ok (.istore_n 3, 1) := by decide +kernel
theorem d_R_kinds_11 : decode prog_7_method_76_code 11 = .ok (.iload_n 3, 1) := by decide +kernel
theorem d_R_kinds_12 : decode prog_7_method_76_code 12 = .ok (.ifCond .eq 11, 3) := by decide +kernel
theorem d_R_kinds_23 : decode prog_7_method_76_code 23 = .ok (.aload_n 0, 1) := by decide +kernel
theorem d_R_kinds_24 : decode prog_7_method_76_code 24 = .ok (.iload_n 1, 1) := by decide +kernel
theorem d_R_kinds_25 : decode prog_7_method_76_code 25 = .ok (.iload_n 2, 1) := by decide +kernel
theorem d_R_kinds_26 : decode prog_7_method_76_code 26 = .ok (.iconst 1, 1) := by decide +kernel
theorem d_R_kinds_27 : decode prog_7_method_76_code 27 = .ok (.invokestatic 85, 3) := by decide +kernel
theorem d_R_kinds_30 : decode prog_7_method_76_code 30 = .ok (.iload_n 2, 1) := by decide +kernel
theorem d_R_kinds_31 : decode prog_7_method_76_code 31 = .ok (.iconst 0, 1) := by decide +kernel
theorem d_R_kinds_32 : decode prog_7_method_76_code 32 = .ok (.invokestatic 85, 3) := by decide +kernel
theorem d_R_kinds_35 : decode prog_7_method_76_code 35 = .ok (.bipush 7, 2) := by decide +kernel
theorem d_R_kinds_37 : decode prog_7_method_76_code 37 = .ok (.invokevirtual 244, 3) := by decide +kernel
theorem d_R_kinds_40 : decode prog_7_method_76_code 40 = .ok (.ireturn, 1) := by decide +kernel
theorem d_R_kinds_15 : decode prog_7_method_76_code 15 = .ok (.aload_n 0, 1) := by decide +kernel
theorem d_R_kinds_16 : decode prog_7_method_76_code 16 = .ok (.iload_n 3, 1) := by decide +kernel
theorem d_R_kinds_17 : decode prog_7_method_76_code 17 = .ok (.invokevirtual 66, 3) := by decide +kernel
theorem d_R_kinds_20 : decode prog_7_method_76_code 20 = .ok (.goto 20, 3) := by decide +kernel
set_option maxHeartbeats 1000000 in
set_option maxRecDepth 20000 in
theorem c_R_isSo (l : Launch) (E : QE) (S : QM) (ν : Nat → Int32) (hν : S 16 = ν) (hwf : WF ν) (α : Nat → Int32) (hα : S 18 = α) (ζ η : Nat → Int32) (hζ : S 23 = ζ) (hη : S 24 = η) (j sz : Nat) (hj : j < 4) (hs2 : ζ j = nI sz) (hsz : sz ≤ 40) (pl : Nat) (hp : pl < 80) : qCPi E l y_R_isSo prog_7_method_73_code 6 .boolean 9 [.ref (eA E 70), .int (nI j), .int (nI pl)] S (b2i (goesS ν sz (shr η j) pl)) (bhG S ν) := by
  refine qCPi_of (by decide) (Nat.le_of_ble_eq_true rfl) (fun p e s m below meth c ls X hW hl => ?_)
  have hl : lv_has ls 6 [(0, .ref (eA E 70)), (1, .int (nI j)), (2, .int (nI pl))] := hl
  have hW : qWH E (qr (qr S 18 α) 16 ν) s s.heap [] := by rw [show qr (qr S 18 α) 16 ν = S from by rw [← hα, qr_self, ← hν, qr_self]]; exact hW
  have htl := hwf.tl
  have hwl := hwf.wl
  have hdl := hwf.dl
  refine lv_aload_n X.x X.b d_R_isSo_0 rfl (lv_at hl 0 rfl) ?_
  refine q_getr X hW qj4 rfl _ ds_R 0 (by decide) mw_686 rfl (c1 := 71) rfl d_R_isSo_1 ?_
  refine lv_aload_n X.x X.b d_R_isSo_4 rfl (lv_at hl 0 rfl) ?_
  refine q_getr X hW qj4 rfl _ ds_R 2 (by decide) mw_688 rfl (c1 := 73) rfl d_R_isSo_5 ?_
  refine q_csv X (c_R_copyRow_na l E (qr (qr S 18 α) 16 ν) ν α (by rw [qr_at]) (by rw [qr_ne (by omega), qr_at])) hW ok_R_copyRow mw_959 ⟨by decide, by decide⟩ (As := [.ref (eA E 71), .ref (eA E 73)]) rfl rfl (Nat.le_of_ble_eq_true rfl) (lv := [(0, .ref (eA E 70)), (1, .int (nI j)), (2, .int (nI pl))]) hl ⟨Nat.le_refl 0, Nat.le_refl 0⟩ d_R_isSo_8 (fun H locs hW => ?_)
  have hW : qWH E (qr (qr S 18 (c80 ν α 80)) 16 ν) s H locs := (by have h := hW; rw [qr_in (by omega)] at h; exact h)
  refine lv_iconst (v := nI 1) X.x X.b d_R_isSo_11 (by decide) ?_
  refine lv_istore_n (lv' := [(3, .int (nI 1)), (0, .ref (eA E 70)), (1, .int (nI j)), (2, .int (nI pl))]) X.x X.b d_R_isSo_12 rfl hl (by decide) rfl (fun ls hl => ?_)
  refine lv_iconst (v := nI 0) X.x X.b d_R_isSo_13 (by decide) ?_
  refine lv_istore (lv' := [(4, .int (nI 0)), (3, .int (nI 1)), (0, .ref (eA E 70)), (1, .int (nI j)), (2, .int (nI pl))]) X.x X.b d_R_isSo_14 hl (by decide) rfl (fun ls hl => ?_)
  have loop16 : ∀ (fu16 : Nat) (i : Nat) (a : Int32) (μ : Nat → Int32), i ≤ sz → a = b2i (∀ q, q < i → (shr η j q = -1 ∨ shr η j q = daysS (q + 1) ν pl)) → μ = daysS i ν → sz - i < fu16 → ∀ (H : Heap) (locs : List Loc) (ls : Array Slot), qWH E (qr (qr S 18 (c80 ν α 80)) 16 μ) s H locs → lv_has ls 6 [(4, .int (nI i)), (3, .int a), (0, .ref (eA E 70)), (1, .int (nI j)), (2, .int (nI pl))] → W p l e (qRm 9) s m ([.ref (eA E 70), .int (nI j), .int (nI pl)] : List Value).toArray below meth c H locs 0 0 (MQ below (qQpi E (b2i (goesS ν sz (shr η j) pl)) (bhG S ν) s.heap.size) ([.ref (eA E 70), .int (nI j), .int (nI pl)] : List Value).toArray s 0 0 (qAA E s.heap.size)) (F0 m 16 ls []) := by
    intro fu16
    induction fu16 with
    | zero =>
      intro i a μ hi ha hm hfu
      exact absurd hfu (Nat.not_lt_zero _)
    | succ fu16 ih16 =>
      intro i a μ hi ha hm hfu H locs ls hW hl
      have hμ : WF μ := hm ▸ dF hwf i
      refine lv_iload X.x X.b d_R_isSo_16 (lv_at hl 0 rfl) ?_
      refine lv_aload_n X.x X.b d_R_isSo_18 rfl (lv_at hl 2 rfl) ?_
      refine q_getr X hW qj4 rfl _ ds_R 18 (by decide) mw_704 rfl (c1 := 79) rfl d_R_isSo_19 ?_
      refine lv_iload_n X.x X.b d_R_isSo_22 rfl (lv_at hl 3 rfl) ?_
      refine g_ald X hW ds_79 (q_in (by omega) (by decide)) (p0 := j) (q_tn (by omega) (by omega)) (v := ζ j) (by rw [qr_ne (by omega), qr_ne (by omega), hζ]) d_R_isSo_23 ?_
      rw [hs2]
      refine lv_icmp_ge (tgt := 78) X.x X.b d_R_isSo_24 (by decide) (fun c24 => ?_) (fun c24 => ?_)
      · have c24 : sz ≤ i := (nI_leI (a := sz) (b := i) (by omega) (by omega)).mp c24
        refine lv_aload_n X.x X.b d_R_isSo_78 rfl (lv_at hl 2 rfl) ?_
        refine q_getr X hW qj4 rfl _ ds_R 2 (by decide) mw_688 rfl (c1 := 73) rfl d_R_isSo_79 ?_
        refine lv_aload_n X.x X.b d_R_isSo_82 rfl (lv_at hl 2 rfl) ?_
        refine q_getr X hW qj4 rfl _ ds_R 0 (by decide) mw_686 rfl (c1 := 71) rfl d_R_isSo_83 ?_
        refine q_csv X (c_R_copyRow_an l E (qr (qr S 18 (c80 ν α 80)) 16 μ) (c80 ν α 80) μ (by rw [qr_ne (by omega), qr_at]) (by rw [qr_at])) hW ok_R_copyRow mw_959 ⟨by decide, by decide⟩ (As := [.ref (eA E 73), .ref (eA E 71)]) rfl rfl (Nat.le_of_ble_eq_true rfl) (lv := [(4, .int (nI i)), (3, .int a), (0, .ref (eA E 70)), (1, .int (nI j)), (2, .int (nI pl))]) hl ⟨Nat.le_refl 0, Nat.le_refl 0⟩ d_R_isSo_86 (fun H locs hW => ?_)
        have hW : qWH E (qr (qr S 18 (c80 ν α 80)) 16 (c80 (c80 ν α 80) μ 80)) s H locs := (by have h := hW; rw [qr_qr] at h; exact h)
        refine lv_iload_n X.x X.b d_R_isSo_89 rfl (lv_at hl 1 rfl) ?_
        exact q_pzret X (by rw [ha]; exact b2i_z) hW ⟨(show a = b2i (goesS ν sz (shr η j) pl) by rw [ha, show i = sz by omega]), ⟨_, _, eq80_c.tr eq80_c, rfl⟩⟩ d_R_isSo_90
      · have c24 : ¬ sz ≤ i := fun z => c24 ((nI_leI (a := sz) (b := i) (by omega) (by omega)).mpr z)
        refine lv_iload_n X.x X.b d_R_isSo_27 rfl (lv_at hl 1 rfl) ?_
        refine lv_if_eq (tgt := 78) X.x X.b d_R_isSo_28 (by decide) (fun c28 => ?_) (fun c28 => ?_)
        · refine lv_aload_n X.x X.b d_R_isSo_78 rfl (lv_at hl 2 rfl) ?_
          refine q_getr X hW qj4 rfl _ ds_R 2 (by decide) mw_688 rfl (c1 := 73) rfl d_R_isSo_79 ?_
          refine lv_aload_n X.x X.b d_R_isSo_82 rfl (lv_at hl 2 rfl) ?_
          refine q_getr X hW qj4 rfl _ ds_R 0 (by decide) mw_686 rfl (c1 := 71) rfl d_R_isSo_83 ?_
          refine q_csv X (c_R_copyRow_an l E (qr (qr S 18 (c80 ν α 80)) 16 μ) (c80 ν α 80) μ (by rw [qr_ne (by omega), qr_at]) (by rw [qr_at])) hW ok_R_copyRow mw_959 ⟨by decide, by decide⟩ (As := [.ref (eA E 73), .ref (eA E 71)]) rfl rfl (Nat.le_of_ble_eq_true rfl) (lv := [(4, .int (nI i)), (3, .int a), (0, .ref (eA E 70)), (1, .int (nI j)), (2, .int (nI pl))]) hl ⟨Nat.le_refl 0, Nat.le_refl 0⟩ d_R_isSo_86 (fun H locs hW => ?_)
          have hW : qWH E (qr (qr S 18 (c80 ν α 80)) 16 (c80 (c80 ν α 80) μ 80)) s H locs := (by have h := hW; rw [qr_qr] at h; exact h)
          refine lv_iload_n X.x X.b d_R_isSo_89 rfl (lv_at hl 1 rfl) ?_
          exact q_pzret X (by rw [ha]; exact b2i_z) hW ⟨(show a = b2i (goesS ν sz (shr η j) pl) by rw [c28]; exact (b2i_f (fun z => (b2i_e (ha ▸ c28 : b2i (∀ q, q < i → (shr η j q = -1 ∨ shr η j q = daysS (q + 1) ν pl)) = 0)) (fun q hq => z q (by omega)))).symm), ⟨_, _, eq80_c.tr eq80_c, rfl⟩⟩ d_R_isSo_90
        · have hY := b2i_n (ha ▸ c28)
          refine lv_aload_n X.x X.b d_R_isSo_31 rfl (lv_at hl 2 rfl) ?_
          refine q_getr X hW qj4 rfl _ ds_R 19 (by decide) mw_705 rfl (c1 := 80) rfl d_R_isSo_32 ?_
          refine lv_bipush (v := nI 40) X.x X.b d_R_isSo_35 (by decide) ?_
          refine lv_iload_n X.x X.b d_R_isSo_37 rfl (lv_at hl 3 rfl) ?_
          refine lv_imul X.x X.b d_R_isSo_38 ?_
          rw [pk_mul]
          refine lv_iload X.x X.b d_R_isSo_39 (lv_at hl 0 rfl) ?_
          refine lv_iadd X.x X.b d_R_isSo_41 ?_
          rw [nI_add]
          refine g_ald X hW ds_80 (q_in (by omega) (by decide)) (p0 := 40 * j + i) (q_tn (by omega) (by omega)) (v := η (40 * j + i)) (by rw [qr_ne (by omega), qr_ne (by omega), hη]) d_R_isSo_42 ?_
          refine lv_istore (lv' := [(5, .int (η (40 * j + i))), (4, .int (nI i)), (3, .int a), (0, .ref (eA E 70)), (1, .int (nI j)), (2, .int (nI pl))]) X.x X.b d_R_isSo_43 hl (by decide) rfl (fun ls hl => ?_)
          refine lv_aload_n X.x X.b d_R_isSo_45 rfl (lv_at hl 3 rfl) ?_
          refine q_cvv X (c_R_day l E (qr (qr S 18 (c80 ν α 80)) 16 μ) μ (by rw [qr_at]) hμ) hW (q_recv X hW ds_R rfl) ok_R_day mw_893 ⟨by decide, by decide⟩ (As := []) rfl rfl (Nat.le_of_ble_eq_true rfl) (lv := [(5, .int (η (40 * j + i))), (4, .int (nI i)), (3, .int a), (0, .ref (eA E 70)), (1, .int (nI j)), (2, .int (nI pl))]) hl ⟨Nat.le_refl 0, Nat.le_refl 0⟩ d_R_isSo_46 (fun H locs hW => ?_)
          have hW : qWH E (qr (qr S 18 (c80 ν α 80)) 16 (dayS μ)) s H locs := (by have h := hW; rw [qr_qr] at h; exact h)
          refine lv_iload X.x X.b d_R_isSo_49 (lv_at hl 0 rfl) ?_
          refine lv_iconst (v := (-1)) X.x X.b d_R_isSo_51 (by decide) ?_
          refine lv_icmp_eq (tgt := 66) X.x X.b d_R_isSo_52 (by decide) (fun c52 => ?_) (fun c52 => ?_)
          · refine lv_iconst (v := nI 1) X.x X.b d_R_isSo_66 (by decide) ?_
            refine lv_goto (tgt := 71) X.x X.b d_R_isSo_67 (by decide) ?_
            refine lv_istore_n (lv' := [(3, .int (nI 1)), (5, .int (η (40 * j + i))), (4, .int (nI i)), (0, .ref (eA E 70)), (1, .int (nI j)), (2, .int (nI pl))]) X.x X.b d_R_isSo_71 rfl hl (by decide) rfl (fun ls hl => ?_)
            refine lv_iinc (v := nI (i + 1)) (lv' := [(4, .int (nI (i + 1))), (3, .int (nI 1)), (5, .int (η (40 * j + i))), (0, .ref (eA E 70)), (1, .int (nI j)), (2, .int (nI pl))]) X.x X.b d_R_isSo_72 hl (k := 2) rfl (by rw [show Int32.ofInt 1 = nI 1 from by decide, nI_add]) (by decide) rfl (fun ls hl => ?_)
            refine lv_goto (tgt := 16) X.x X.b d_R_isSo_75 (by decide) ?_
            exact ih16 (i + 1) (nI 1) (dayS μ) (by omega) (b2i_t (fun q hq => by rcases Nat.lt_succ_iff_lt_or_eq.mp hq with z | z; exact hY q z; subst z; exact Or.inl c52)).symm (by rw [hm]; rfl) (by omega) _ _ _ hW (lv_sub hl [0, 1, 3, 4, 5] rfl)
          · refine lv_iload X.x X.b d_R_isSo_55 (lv_at hl 0 rfl) ?_
            refine lv_aload_n X.x X.b d_R_isSo_57 rfl (lv_at hl 3 rfl) ?_
            refine q_getr X hW qj4 rfl _ ds_R 0 (by decide) mw_686 rfl (c1 := 71) rfl d_R_isSo_58 ?_
            refine lv_iload_n X.x X.b d_R_isSo_61 rfl (lv_at hl 5 rfl) ?_
            refine g_ald X hW ds_71 (q_in (by omega) (by decide)) (p0 := pl) (q_tn (by omega) (by omega)) (v := dayS μ pl) (by rw [qr_at]) d_R_isSo_62 ?_
            refine lv_icmp_ne (tgt := 70) X.x X.b d_R_isSo_63 (by decide) (fun c63 => ?_) (fun c63 => ?_)
            · refine lv_iconst (v := nI 0) X.x X.b d_R_isSo_70 (by decide) ?_
              refine lv_istore_n (lv' := [(3, .int (nI 0)), (5, .int (η (40 * j + i))), (4, .int (nI i)), (0, .ref (eA E 70)), (1, .int (nI j)), (2, .int (nI pl))]) X.x X.b d_R_isSo_71 rfl hl (by decide) rfl (fun ls hl => ?_)
              refine lv_iinc (v := nI (i + 1)) (lv' := [(4, .int (nI (i + 1))), (3, .int (nI 0)), (5, .int (η (40 * j + i))), (0, .ref (eA E 70)), (1, .int (nI j)), (2, .int (nI pl))]) X.x X.b d_R_isSo_72 hl (k := 2) rfl (by rw [show Int32.ofInt 1 = nI 1 from by decide, nI_add]) (by decide) rfl (fun ls hl => ?_)
              refine lv_goto (tgt := 16) X.x X.b d_R_isSo_75 (by decide) ?_
              exact ih16 (i + 1) (nI 0) (dayS μ) (by omega) (b2i_f (fun z => (z i (by omega)).elim c52 (fun y => c63 (by rw [hm]; exact y)))).symm (by rw [hm]; rfl) (by omega) _ _ _ hW (lv_sub hl [0, 1, 3, 4, 5] rfl)
            · refine lv_iconst (v := nI 1) X.x X.b d_R_isSo_66 (by decide) ?_
              refine lv_goto (tgt := 71) X.x X.b d_R_isSo_67 (by decide) ?_
              refine lv_istore_n (lv' := [(3, .int (nI 1)), (5, .int (η (40 * j + i))), (4, .int (nI i)), (0, .ref (eA E 70)), (1, .int (nI j)), (2, .int (nI pl))]) X.x X.b d_R_isSo_71 rfl hl (by decide) rfl (fun ls hl => ?_)
              refine lv_iinc (v := nI (i + 1)) (lv' := [(4, .int (nI (i + 1))), (3, .int (nI 1)), (5, .int (η (40 * j + i))), (0, .ref (eA E 70)), (1, .int (nI j)), (2, .int (nI pl))]) X.x X.b d_R_isSo_72 hl (k := 2) rfl (by rw [show Int32.ofInt 1 = nI 1 from by decide, nI_add]) (by decide) rfl (fun ls hl => ?_)
              refine lv_goto (tgt := 16) X.x X.b d_R_isSo_75 (by decide) ?_
              exact ih16 (i + 1) (nI 1) (dayS μ) (by omega) (b2i_t (fun q hq => by rcases Nat.lt_succ_iff_lt_or_eq.mp hq with z | z; exact hY q z; subst z; exact Or.inr (by rw [hm] at c63; exact c63))).symm (by rw [hm]; rfl) (by omega) _ _ _ hW (lv_sub hl [0, 1, 3, 4, 5] rfl)
  exact loop16 (sz - 0 + 1) 0 (nI 1) ν (by omega) (b2i_t (fun q hq => absurd hq (Nat.not_lt_zero q))).symm rfl (Nat.lt_succ_self _) _ _ _ hW (lv_sub hl [0, 1, 2, 3, 4] rfl)
set_option maxHeartbeats 1000000 in
set_option maxRecDepth 20000 in
theorem c_R_fitting (l : Launch) (E : QE) (S : QM) (ν : Nat → Int32) (hν : S 16 = ν) (hwf : WF ν) (α : Nat → Int32) (hα : S 18 = α) (ζ η : Nat → Int32) (hζ : S 23 = ζ) (hη : S 24 = η) (j sz : Nat) (hj : j < 4) (hs2 : ζ j = nI sz) (hsz : sz ≤ 40) (a0 many pl : Nat) (G : Nat → Prop) [DecidablePred G] (ha0 : a0 < 80) (hpl : pl < 80) (hmn : many ≤ 100) (hWf : ∀ v, v < many → WF (upd ν a0 (nI v))) (hG : ∀ v, v < many → ∀ μ, eq80 μ (upd ν a0 (nI v)) → (goesS μ sz (shr η j) pl ↔ G v)) : qCPi E l y_R_fitting prog_7_method_74_code 8 .int 10 [.ref (eA E 70), .int (nI j), .int (nI pl), .int (nI a0), .int (nI many)] S (setS G many) (bhG S ν) := by
  refine qCPi_of (by decide) (Nat.le_of_ble_eq_true rfl) (fun p e s m below meth c ls X hW hl => ?_)
  have hl : lv_has ls 8 [(0, .ref (eA E 70)), (1, .int (nI j)), (2, .int (nI pl)), (3, .int (nI a0)), (4, .int (nI many))] := hl
  have hW : qWH E (qr (qr S 18 α) 16 ν) s s.heap [] := by rw [show qr (qr S 18 α) 16 ν = S from by rw [← hα, qr_self, ← hν, qr_self]]; exact hW
  have htl := hwf.tl
  have hwl := hwf.wl
  have hdl := hwf.dl
  refine lv_aload_n X.x X.b d_R_fitting_0 rfl (lv_at hl 0 rfl) ?_
  refine q_getr X hW qj4 rfl _ ds_R 0 (by decide) mw_686 rfl (c1 := 71) rfl d_R_fitting_1 ?_
  refine lv_iload_n X.x X.b d_R_fitting_4 rfl (lv_at hl 3 rfl) ?_
  refine g_ald X hW ds_71 (q_in (by omega) (by decide)) (p0 := a0) (q_tn (by omega) (by omega)) (v := ν a0) (by rw [qr_at]) d_R_fitting_5 ?_
  refine lv_istore (lv' := [(5, .int (ν a0)), (0, .ref (eA E 70)), (1, .int (nI j)), (2, .int (nI pl)), (3, .int (nI a0)), (4, .int (nI many))]) X.x X.b d_R_fitting_6 hl (by decide) rfl (fun ls hl => ?_)
  refine lv_iconst (v := nI 0) X.x X.b d_R_fitting_8 (by decide) ?_
  refine lv_istore (lv' := [(6, .int (nI 0)), (5, .int (ν a0)), (0, .ref (eA E 70)), (1, .int (nI j)), (2, .int (nI pl)), (3, .int (nI a0)), (4, .int (nI many))]) X.x X.b d_R_fitting_9 hl (by decide) rfl (fun ls hl => ?_)
  refine lv_iconst (v := nI 0) X.x X.b d_R_fitting_11 (by decide) ?_
  refine lv_istore (lv' := [(7, .int (nI 0)), (6, .int (nI 0)), (5, .int (ν a0)), (0, .ref (eA E 70)), (1, .int (nI j)), (2, .int (nI pl)), (3, .int (nI a0)), (4, .int (nI many))]) X.x X.b d_R_fitting_12 hl (by decide) rfl (fun ls hl => ?_)
  have loop14 : ∀ (fu14 : Nat) (i : Nat) (a : Int32) (μ : Nat → Int32) (κ : Nat → Int32), i ≤ many → a = fo (fun i a => if G i then a ||| bt i else a) i (nI 0) → (∀ v, eq80 (upd μ a0 v) (upd ν a0 v)) → many - i < fu14 → ∀ (H : Heap) (locs : List Loc) (ls : Array Slot), qWH E (qr (qr S 18 κ) 16 μ) s H locs → lv_has ls 8 [(7, .int (nI i)), (6, .int a), (5, .int (ν a0)), (0, .ref (eA E 70)), (1, .int (nI j)), (2, .int (nI pl)), (3, .int (nI a0)), (4, .int (nI many))] → W p l e (qRm 10) s m ([.ref (eA E 70), .int (nI j), .int (nI pl), .int (nI a0), .int (nI many)] : List Value).toArray below meth c H locs 0 0 (MQ below (qQpi E (setS G many) (bhG S ν) s.heap.size) ([.ref (eA E 70), .int (nI j), .int (nI pl), .int (nI a0), .int (nI many)] : List Value).toArray s 0 0 (qAA E s.heap.size)) (F0 m 14 ls []) := by
    intro fu14
    induction fu14 with
    | zero =>
      intro i a μ κ hi ha hμ hfu
      exact absurd hfu (Nat.not_lt_zero _)
    | succ fu14 ih14 =>
      intro i a μ κ hi ha hμ hfu H locs ls hW hl
      refine lv_iload X.x X.b d_R_fitting_14 (lv_at hl 0 rfl) ?_
      refine lv_iload X.x X.b d_R_fitting_16 (lv_at hl 7 rfl) ?_
      refine lv_icmp_ge (tgt := 57) X.x X.b d_R_fitting_18 (by decide) (fun c18 => ?_) (fun c18 => ?_)
      · have c18 : many ≤ i := (nI_leI (a := many) (b := i) (by omega) (by omega)).mp c18
        refine lv_aload_n X.x X.b d_R_fitting_57 rfl (lv_at hl 3 rfl) ?_
        refine q_getr X hW qj4 rfl _ ds_R 0 (by decide) mw_686 rfl (c1 := 71) rfl d_R_fitting_58 ?_
        refine lv_iload_n X.x X.b d_R_fitting_61 rfl (lv_at hl 6 rfl) ?_
        refine lv_iload X.x X.b d_R_fitting_62 (lv_at hl 2 rfl) ?_
        refine g_ast X hW ds_71 (q_in (by omega) (by decide)) (p0 := a0) (q_tn (by omega) (by omega)) (ρ := μ) (by rw [qr_at]) d_R_fitting_64 (fun H locs hW => ?_)
        obtain ⟨r64, er64⟩ : ∃ z, z = upd μ a0 (ν a0) := ⟨_, rfl⟩
        rw [← er64] at hW
        rw [qr_qr] at hW
        refine lv_iload X.x X.b d_R_fitting_65 (lv_at hl 1 rfl) ?_
        exact q_pzret X rfl hW ⟨by rw [ha, show i = many by omega]; rfl, ⟨_, _, by rw [er64]; have h := hμ (ν a0); rw [upd_self] at h; exact h, rfl⟩⟩ d_R_fitting_67
      · have c18 : ¬ many ≤ i := fun z => c18 ((nI_leI (a := many) (b := i) (by omega) (by omega)).mpr z)
        refine lv_aload_n X.x X.b d_R_fitting_21 rfl (lv_at hl 3 rfl) ?_
        refine q_getr X hW qj4 rfl _ ds_R 0 (by decide) mw_686 rfl (c1 := 71) rfl d_R_fitting_22 ?_
        refine lv_iload_n X.x X.b d_R_fitting_25 rfl (lv_at hl 6 rfl) ?_
        refine lv_iload X.x X.b d_R_fitting_26 (lv_at hl 0 rfl) ?_
        refine g_ast X hW ds_71 (q_in (by omega) (by decide)) (p0 := a0) (q_tn (by omega) (by omega)) (ρ := μ) (by rw [qr_at]) d_R_fitting_28 (fun H locs hW => ?_)
        obtain ⟨r28, er28⟩ : ∃ z, z = upd μ a0 (nI i) := ⟨_, rfl⟩
        rw [← er28] at hW
        rw [qr_qr] at hW
        have hw28 : WF r28 := by rw [er28]; exact (hμ (nI i)).wf (hWf i (by omega))
        refine lv_iload X.x X.b d_R_fitting_29 (lv_at hl 1 rfl) ?_
        refine lv_aload_n X.x X.b d_R_fitting_31 rfl (lv_at hl 3 rfl) ?_
        refine lv_iload_n X.x X.b d_R_fitting_32 rfl (lv_at hl 4 rfl) ?_
        refine lv_iload_n X.x X.b d_R_fitting_33 rfl (lv_at hl 5 rfl) ?_
        refine q_cvip X (c_R_isSo l E (qr (qr S 18 κ) 16 r28) r28 (by rw [qr_at]) hw28 κ (by rw [qr_ne (by omega), qr_at]) ζ η (by rw [qr_ne (by omega), qr_ne (by omega), hζ]) (by rw [qr_ne (by omega), qr_ne (by omega), hη]) j sz hj hs2 hsz pl (by omega)) hW (q_recv X hW ds_R rfl) ok_R_isSo mw_1041 ⟨by decide, by decide⟩ (As := [.int (nI j), .int (nI pl)]) rfl rfl (Nat.le_of_ble_eq_true rfl) (lv := [(7, .int (nI i)), (6, .int a), (5, .int (ν a0)), (0, .ref (eA E 70)), (1, .int (nI j)), (2, .int (nI pl)), (3, .int (nI a0)), (4, .int (nI many))]) hl ⟨Nat.le_refl 0, Nat.le_refl 0⟩ d_R_fitting_34 (fun H locs Sq34 hP34 hW => ?_)
        obtain ⟨τ34, α34, hτ34, rfl⟩ := hP34
        have hW : qWH E (qr (qr S 18 α34) 16 τ34) s H locs := (by have h := hW; rw [qr_in (by omega), qr_in (by omega)] at h; exact h)
        rw [show b2i (goesS r28 sz (shr η j) pl) = b2i (G i) from b2i_c (hG i (by omega) r28 (by rw [er28]; exact hμ (nI i)))]
        refine lv_if_eq (tgt := 47) X.x X.b d_R_fitting_37 (by decide) (fun c37 => ?_) (fun c37 => ?_)
        · have c37 := b2i_e c37
          refine lv_iconst (v := nI 0) X.x X.b d_R_fitting_47 (by decide) ?_
          refine lv_ior X.x X.b d_R_fitting_48 ?_
          refine lv_istore (lv' := [(6, .int (a ||| (nI 0))), (7, .int (nI i)), (5, .int (ν a0)), (0, .ref (eA E 70)), (1, .int (nI j)), (2, .int (nI pl)), (3, .int (nI a0)), (4, .int (nI many))]) X.x X.b d_R_fitting_49 hl (by decide) rfl (fun ls hl => ?_)
          refine lv_iinc (v := nI (i + 1)) (lv' := [(7, .int (nI (i + 1))), (6, .int (a ||| (nI 0))), (5, .int (ν a0)), (0, .ref (eA E 70)), (1, .int (nI j)), (2, .int (nI pl)), (3, .int (nI a0)), (4, .int (nI many))]) X.x X.b d_R_fitting_51 hl (k := 1) rfl (by rw [show Int32.ofInt 1 = nI 1 from by decide, nI_add]) (by decide) rfl (fun ls hl => ?_)
          refine lv_goto (tgt := 14) X.x X.b d_R_fitting_54 (by decide) ?_
          exact ih14 (i + 1) (a ||| (nI 0)) τ34 α34 (by omega) (by rw [fo_succ, ← ha]; first | exact (if_pos c37).symm | (rw [if_neg c37]; exact or0)) (eq80_st (er28 ▸ hτ34) hμ) (by omega) _ _ _ hW (lv_sub hl [0, 1, 2, 3, 4, 5, 6, 7] rfl)
        · have c37 := b2i_n c37
          refine lv_iconst (v := nI 1) X.x X.b d_R_fitting_40 (by decide) ?_
          refine lv_iload X.x X.b d_R_fitting_41 (lv_at hl 0 rfl) ?_
          refine lv_ishl X.x X.b d_R_fitting_43 ?_
          refine lv_goto (tgt := 48) X.x X.b d_R_fitting_44 (by decide) ?_
          refine lv_ior X.x X.b d_R_fitting_48 ?_
          refine lv_istore (lv' := [(6, .int (a ||| ((nI 1) <<< ((nI i) &&& 31)))), (7, .int (nI i)), (5, .int (ν a0)), (0, .ref (eA E 70)), (1, .int (nI j)), (2, .int (nI pl)), (3, .int (nI a0)), (4, .int (nI many))]) X.x X.b d_R_fitting_49 hl (by decide) rfl (fun ls hl => ?_)
          refine lv_iinc (v := nI (i + 1)) (lv' := [(7, .int (nI (i + 1))), (6, .int (a ||| ((nI 1) <<< ((nI i) &&& 31)))), (5, .int (ν a0)), (0, .ref (eA E 70)), (1, .int (nI j)), (2, .int (nI pl)), (3, .int (nI a0)), (4, .int (nI many))]) X.x X.b d_R_fitting_51 hl (k := 1) rfl (by rw [show Int32.ofInt 1 = nI 1 from by decide, nI_add]) (by decide) rfl (fun ls hl => ?_)
          refine lv_goto (tgt := 14) X.x X.b d_R_fitting_54 (by decide) ?_
          exact ih14 (i + 1) (a ||| ((nI 1) <<< ((nI i) &&& 31))) τ34 α34 (by omega) (by rw [fo_succ, ← ha]; first | exact (if_pos c37).symm | (rw [if_neg c37]; exact or0)) (eq80_st (er28 ▸ hτ34) hμ) (by omega) _ _ _ hW (lv_sub hl [0, 1, 2, 3, 4, 5, 6, 7] rfl)
  exact loop14 (many - 0 + 1) 0 (nI 0) ν α (by omega) rfl (fun _ => eq80.rf) (Nat.lt_succ_self _) _ _ _ hW (lv_sub hl [0, 1, 2, 3, 4, 5, 6, 7] rfl)
set_option maxHeartbeats 1000000 in
set_option maxRecDepth 20000 in
theorem c_R_fits_g (l : Launch) (E : QE) (S : QM) (ν : Nat → Int32) (hν : S 16 = ν) (hwf : WF ν) (α : Nat → Int32) (hα : S 18 = α) (ω ζ η ψ : Nat → Int32) (hω : S 22 = ω) (hζ : S 23 = ζ) (hη : S 24 = η) (hψ : S 19 = ψ) (j sz : Nat) (hj : j < 4) (hs2 : ζ j = nI sz) (hsz : sz ≤ 40) (hb : ¬ ω j = 0) (w : Nat) (hw : w < nW ν) : qCPi E l y_R_fits prog_7_method_75_code 4 .int 11 [.ref (eA E 70), .int (nI j), .int (nI w)] S (setS (fun i => goesS (upd ν (44 + 6 * w) (nI i)) sz (shr η j) (44 + 6 * w)) 16) (bhG S ν) := by
  refine qCPi_of (by decide) (Nat.le_of_ble_eq_true rfl) (fun p e s m below meth c ls X hW hl => ?_)
  have hl : lv_has ls 4 [(0, .ref (eA E 70)), (1, .int (nI j)), (2, .int (nI w))] := hl
  have hW : qWH E (qr (qr S 18 α) 16 ν) s s.heap [] := by rw [show qr (qr S 18 α) 16 ν = S from by rw [← hα, qr_self, ← hν, qr_self]]; exact hW
  have htl := hwf.tl
  have hwl := hwf.wl
  have hdl := hwf.dl
  refine lv_aload_n X.x X.b d_R_fits_0 rfl (lv_at hl 0 rfl) ?_
  refine lv_iload_n X.x X.b d_R_fits_1 rfl (lv_at hl 1 rfl) ?_
  refine lv_aload_n X.x X.b d_R_fits_2 rfl (lv_at hl 0 rfl) ?_
  refine lv_iload_n X.x X.b d_R_fits_3 rfl (lv_at hl 2 rfl) ?_
  refine q_cvi X (c_R_isWalker l E (qr (qr S 18 α) 16 ν) ν (by rw [qr_at]) hwf (nI w)) hW (q_recv X hW ds_R rfl) ok_R_isWalker mw_841 ⟨by decide, by decide⟩ (As := [.int (nI w)]) rfl rfl (Nat.le_of_ble_eq_true rfl) (lv := [(0, .ref (eA E 70)), (1, .int (nI j)), (2, .int (nI w))]) hl ⟨Nat.le_refl 0, Nat.le_refl 0⟩ d_R_fits_4 (fun H locs hW => ?_)
  refine q_cvi X (c_R_lacks_c l E (qr (qr S 18 α) 16 ν) ω ζ η ψ (by rw [qr_ne (by omega), qr_ne (by omega), hω]) (by rw [qr_ne (by omega), qr_ne (by omega), hζ]) (by rw [qr_ne (by omega), qr_ne (by omega), hη]) (by rw [qr_ne (by omega), qr_ne (by omega), hψ]) j (b2i (isW ν (nI w))) hj hb (by rw [b2i_t ((isW_i hwf (by omega)).mpr (by omega))]; decide)) hW (q_recv X hW ds_R rfl) ok_R_lacks mw_1029 ⟨by decide, by decide⟩ (As := [.int (nI j), .int (b2i (isW ν (nI w)))]) rfl rfl (Nat.le_of_ble_eq_true rfl) (lv := [(0, .ref (eA E 70)), (1, .int (nI j)), (2, .int (nI w))]) hl ⟨Nat.le_refl 0, Nat.le_refl 0⟩ d_R_fits_7 (fun H locs hW => ?_)
  refine lv_istore_n (lv' := [(3, .int (nI 0)), (0, .ref (eA E 70)), (1, .int (nI j)), (2, .int (nI w))]) X.x X.b d_R_fits_10 rfl hl (by decide) rfl (fun ls hl => ?_)
  refine lv_iload_n X.x X.b d_R_fits_11 rfl (lv_at hl 0 rfl) ?_
  refine lv_if_eq (tgt := 23) X.x X.b d_R_fits_12 (by decide) (fun c12 => ?_) (fun c12 => ?_)
  · have c12 : 0 = 0 := (nI_eq (a := 0) (b := 0) (by omega) (by omega)).mp c12
    refine lv_aload_n X.x X.b d_R_fits_23 rfl (lv_at hl 1 rfl) ?_
    refine lv_iload_n X.x X.b d_R_fits_24 rfl (lv_at hl 2 rfl) ?_
    refine lv_iload_n X.x X.b d_R_fits_25 rfl (lv_at hl 3 rfl) ?_
    refine lv_iconst (v := nI 0) X.x X.b d_R_fits_26 (by decide) ?_
    refine q_csi X (c_R_walkerAt_z l E (qr (qr S 18 α) 16 ν) w) hW ok_R_walkerAt mw_802 ⟨by decide, by decide⟩ (As := [.int (nI w), .int (nI 0)]) rfl rfl (Nat.le_of_ble_eq_true rfl) (lv := [(3, .int (nI 0)), (0, .ref (eA E 70)), (1, .int (nI j)), (2, .int (nI w))]) hl ⟨Nat.le_refl 0, Nat.le_refl 0⟩ d_R_fits_27 (fun H locs hW => ?_)
    refine lv_iload_n X.x X.b d_R_fits_30 rfl (lv_at hl 3 rfl) ?_
    refine lv_iconst (v := nI 0) X.x X.b d_R_fits_31 (by decide) ?_
    refine q_csi X (c_R_walkerAt_z l E (qr (qr S 18 α) 16 ν) w) hW ok_R_walkerAt mw_802 ⟨by decide, by decide⟩ (As := [.int (nI w), .int (nI 0)]) rfl rfl (Nat.le_of_ble_eq_true rfl) (lv := [(3, .int (nI 0)), (0, .ref (eA E 70)), (1, .int (nI j)), (2, .int (nI w))]) hl ⟨Nat.le_refl 0, Nat.le_refl 0⟩ d_R_fits_32 (fun H locs hW => ?_)
    refine lv_bipush (v := nI 16) X.x X.b d_R_fits_35 (by decide) ?_
    refine q_cvip X (c_R_fitting l E (qr (qr S 18 α) 16 ν) ν (by rw [qr_at]) hwf α (by rw [qr_ne (by omega), qr_at]) ζ η (by rw [qr_ne (by omega), qr_ne (by omega), hζ]) (by rw [qr_ne (by omega), qr_ne (by omega), hη]) j sz hj hs2 hsz (44 + 6 * w) 16 (44 + 6 * w) (fun i => goesS (upd ν (44 + 6 * w) (nI i)) sz (shr η j) (44 + 6 * w)) (by omega) (by omega) (by omega) (fun v hv => WF_wc hwf (by omega) (by omega)) (fun v hv μ h => goesS_w (h.eqv ((fun v hv => WF_wc hwf (by omega) (by omega)) v hv)) (h.wf ((fun v hv => WF_wc hwf (by omega) (by omega)) v hv)) (by rw [(h.eqv ((fun v hv => WF_wc hwf (by omega) (by omega)) v hv)).nW, nW_up (by omega)]; exact hw))) hW (q_recv X hW ds_R rfl) ok_R_fitting mw_1037 ⟨by decide, by decide⟩ (As := [.int (nI j), .int (nI (44 + 6 * w)), .int (nI (44 + 6 * w)), .int (nI 16)]) rfl rfl (Nat.le_of_ble_eq_true rfl) (lv := [(3, .int (nI 0)), (0, .ref (eA E 70)), (1, .int (nI j)), (2, .int (nI w))]) hl ⟨Nat.le_refl 0, Nat.le_refl 0⟩ d_R_fits_37 (fun H locs Sq37 hP37 hW => ?_)
    obtain ⟨τ37, α37, hτ37, rfl⟩ := hP37
    have hW : qWH E (qr (qr S 18 α37) 16 τ37) s H locs := (by have h := hW; rw [qr_in (by omega), qr_in (by omega)] at h; exact h)
    exact q_pzret X rfl hW ⟨rfl, ⟨_, _, hτ37, rfl⟩⟩ d_R_fits_40
  · exact absurd (by decide) c12
set_option maxHeartbeats 1000000 in
set_option maxRecDepth 20000 in
theorem c_R_fits_la (l : Launch) (E : QE) (S : QM) (ν : Nat → Int32) (hν : S 16 = ν) (hwf : WF ν) (ω ζ η ψ : Nat → Int32) (hω : S 22 = ω) (hζ : S 23 = ζ) (hη : S 24 = η) (hψ : S 19 = ψ) (x y : Int32) (h : ¬ inR 0 3 x) : qCI E l y_R_fits prog_7_method_75_code 4 .int 5 [.ref (eA E 70), .int x, .int y] S (-1000001) (qr S 19 (fnR ψ 0)) := by
  refine qCI_of (by decide) (Nat.le_of_ble_eq_true rfl) (fun p e s m below meth c ls X hW hl => ?_)
  have hl : lv_has ls 4 [(0, .ref (eA E 70)), (1, .int x), (2, .int y)] := hl
  have htl := hwf.tl
  have hwl := hwf.wl
  have hdl := hwf.dl
  refine lv_aload_n X.x X.b d_R_fits_0 rfl (lv_at hl 0 rfl) ?_
  refine lv_iload_n X.x X.b d_R_fits_1 rfl (lv_at hl 1 rfl) ?_
  refine lv_aload_n X.x X.b d_R_fits_2 rfl (lv_at hl 0 rfl) ?_
  refine lv_iload_n X.x X.b d_R_fits_3 rfl (lv_at hl 2 rfl) ?_
  refine q_cvi X (c_R_isWalker l E S ν (by rw [hν]) hwf y) hW (q_recv X hW ds_R rfl) ok_R_isWalker mw_841 ⟨by decide, by decide⟩ (As := [.int y]) rfl rfl (Nat.le_of_ble_eq_true rfl) (lv := [(0, .ref (eA E 70)), (1, .int x), (2, .int y)]) hl ⟨Nat.le_refl 0, Nat.le_refl 0⟩ d_R_fits_4 (fun H locs hW => ?_)
  refine q_cvi X (c_R_lacks_a l E S ω ζ η ψ (by rw [hω]) (by rw [hζ]) (by rw [hη]) (by rw [hψ]) x (b2i (isW ν y)) h) hW (q_recv X hW ds_R rfl) ok_R_lacks mw_1029 ⟨by decide, by decide⟩ (As := [.int x, .int (b2i (isW ν y))]) rfl rfl (Nat.le_of_ble_eq_true rfl) (lv := [(0, .ref (eA E 70)), (1, .int x), (2, .int y)]) hl ⟨Nat.le_refl 0, Nat.le_refl 0⟩ d_R_fits_7 (fun H locs hW => ?_)
  refine lv_istore_n (lv' := [(3, .int (-1000001)), (0, .ref (eA E 70)), (1, .int x), (2, .int y)]) X.x X.b d_R_fits_10 rfl hl (by decide) rfl (fun ls hl => ?_)
  refine lv_iload_n X.x X.b d_R_fits_11 rfl (lv_at hl 0 rfl) ?_
  refine lv_if_eq (tgt := 23) X.x X.b d_R_fits_12 (by decide) (fun c12 => ?_) (fun c12 => ?_)
  · exact absurd c12 (by decide)
  · refine lv_aload_n X.x X.b d_R_fits_15 rfl (lv_at hl 1 rfl) ?_
    refine lv_iload_n X.x X.b d_R_fits_16 rfl (lv_at hl 0 rfl) ?_
    refine q_cvi X (c_R_finding_0 l E S ψ (by rw [hψ])) hW (q_recv X hW ds_R rfl) ok_R_finding mw_768 ⟨by decide, by decide⟩ (As := [.int (-1000001)]) rfl rfl (Nat.le_of_ble_eq_true rfl) (lv := [(3, .int (-1000001)), (0, .ref (eA E 70)), (1, .int x), (2, .int y)]) hl ⟨Nat.le_refl 0, Nat.le_refl 0⟩ d_R_fits_17 (fun H locs hW => ?_)
    have hW : qWH E (qr S 19 (fnR ψ 0)) s H locs := hW
    refine lv_goto (tgt := 40) X.x X.b d_R_fits_20 (by decide) ?_
    exact q_zret X rfl hW ⟨rfl, rfl⟩ d_R_fits_40
set_option maxHeartbeats 1000000 in
set_option maxRecDepth 20000 in
theorem c_R_fits_lb (l : Launch) (E : QE) (S : QM) (ν : Nat → Int32) (hν : S 16 = ν) (hwf : WF ν) (ω ζ η ψ : Nat → Int32) (hω : S 22 = ω) (hζ : S 23 = ζ) (hη : S 24 = η) (hψ : S 19 = ψ) (j : Nat) (y : Int32) (hj : j < 4) (hb : ω j = 0) : qCI E l y_R_fits prog_7_method_75_code 4 .int 5 [.ref (eA E 70), .int (nI j), .int y] S (-1000006) (qr S 19 (fnR ψ 5)) := by
  refine qCI_of (by decide) (Nat.le_of_ble_eq_true rfl) (fun p e s m below meth c ls X hW hl => ?_)
  have hl : lv_has ls 4 [(0, .ref (eA E 70)), (1, .int (nI j)), (2, .int y)] := hl
  have htl := hwf.tl
  have hwl := hwf.wl
  have hdl := hwf.dl
  refine lv_aload_n X.x X.b d_R_fits_0 rfl (lv_at hl 0 rfl) ?_
  refine lv_iload_n X.x X.b d_R_fits_1 rfl (lv_at hl 1 rfl) ?_
  refine lv_aload_n X.x X.b d_R_fits_2 rfl (lv_at hl 0 rfl) ?_
  refine lv_iload_n X.x X.b d_R_fits_3 rfl (lv_at hl 2 rfl) ?_
  refine q_cvi X (c_R_isWalker l E S ν (by rw [hν]) hwf y) hW (q_recv X hW ds_R rfl) ok_R_isWalker mw_841 ⟨by decide, by decide⟩ (As := [.int y]) rfl rfl (Nat.le_of_ble_eq_true rfl) (lv := [(0, .ref (eA E 70)), (1, .int (nI j)), (2, .int y)]) hl ⟨Nat.le_refl 0, Nat.le_refl 0⟩ d_R_fits_4 (fun H locs hW => ?_)
  refine q_cvi X (c_R_lacks_b l E S ω ζ η ψ (by rw [hω]) (by rw [hζ]) (by rw [hη]) (by rw [hψ]) j (b2i (isW ν y)) hj hb) hW (q_recv X hW ds_R rfl) ok_R_lacks mw_1029 ⟨by decide, by decide⟩ (As := [.int (nI j), .int (b2i (isW ν y))]) rfl rfl (Nat.le_of_ble_eq_true rfl) (lv := [(0, .ref (eA E 70)), (1, .int (nI j)), (2, .int y)]) hl ⟨Nat.le_refl 0, Nat.le_refl 0⟩ d_R_fits_7 (fun H locs hW => ?_)
  refine lv_istore_n (lv' := [(3, .int (-1000006)), (0, .ref (eA E 70)), (1, .int (nI j)), (2, .int y)]) X.x X.b d_R_fits_10 rfl hl (by decide) rfl (fun ls hl => ?_)
  refine lv_iload_n X.x X.b d_R_fits_11 rfl (lv_at hl 0 rfl) ?_
  refine lv_if_eq (tgt := 23) X.x X.b d_R_fits_12 (by decide) (fun c12 => ?_) (fun c12 => ?_)
  · exact absurd c12 (by decide)
  · refine lv_aload_n X.x X.b d_R_fits_15 rfl (lv_at hl 1 rfl) ?_
    refine lv_iload_n X.x X.b d_R_fits_16 rfl (lv_at hl 0 rfl) ?_
    refine q_cvi X (c_R_finding_5 l E S ψ (by rw [hψ])) hW (q_recv X hW ds_R rfl) ok_R_finding mw_768 ⟨by decide, by decide⟩ (As := [.int (-1000006)]) rfl rfl (Nat.le_of_ble_eq_true rfl) (lv := [(3, .int (-1000006)), (0, .ref (eA E 70)), (1, .int (nI j)), (2, .int y)]) hl ⟨Nat.le_refl 0, Nat.le_refl 0⟩ d_R_fits_17 (fun H locs hW => ?_)
    have hW : qWH E (qr S 19 (fnR ψ 5)) s H locs := hW
    refine lv_goto (tgt := 40) X.x X.b d_R_fits_20 (by decide) ?_
    exact q_zret X rfl hW ⟨rfl, rfl⟩ d_R_fits_40
set_option maxHeartbeats 1000000 in
set_option maxRecDepth 20000 in
theorem c_R_fits_b (l : Launch) (E : QE) (S : QM) (ν : Nat → Int32) (hν : S 16 = ν) (hwf : WF ν) (ω ζ η ψ : Nat → Int32) (hω : S 22 = ω) (hζ : S 23 = ζ) (hη : S 24 = η) (hψ : S 19 = ψ) (j : Nat) (y : Int32) (hj : j < 4) (hb : ¬ ω j = 0) (h : ¬ isW ν y) : qCI E l y_R_fits prog_7_method_75_code 4 .int 5 [.ref (eA E 70), .int (nI j), .int y] S (-1000001) (qr S 19 (fnR ψ 0)) := by
  refine qCI_of (by decide) (Nat.le_of_ble_eq_true rfl) (fun p e s m below meth c ls X hW hl => ?_)
  have hl : lv_has ls 4 [(0, .ref (eA E 70)), (1, .int (nI j)), (2, .int y)] := hl
  have htl := hwf.tl
  have hwl := hwf.wl
  have hdl := hwf.dl
  refine lv_aload_n X.x X.b d_R_fits_0 rfl (lv_at hl 0 rfl) ?_
  refine lv_iload_n X.x X.b d_R_fits_1 rfl (lv_at hl 1 rfl) ?_
  refine lv_aload_n X.x X.b d_R_fits_2 rfl (lv_at hl 0 rfl) ?_
  refine lv_iload_n X.x X.b d_R_fits_3 rfl (lv_at hl 2 rfl) ?_
  refine q_cvi X (c_R_isWalker l E S ν (by rw [hν]) hwf y) hW (q_recv X hW ds_R rfl) ok_R_isWalker mw_841 ⟨by decide, by decide⟩ (As := [.int y]) rfl rfl (Nat.le_of_ble_eq_true rfl) (lv := [(0, .ref (eA E 70)), (1, .int (nI j)), (2, .int y)]) hl ⟨Nat.le_refl 0, Nat.le_refl 0⟩ d_R_fits_4 (fun H locs hW => ?_)
  refine q_cvi X (c_R_lacks_d l E S ω ζ η ψ (by rw [hω]) (by rw [hζ]) (by rw [hη]) (by rw [hψ]) j (b2i (isW ν y)) hj hb (b2i_f h)) hW (q_recv X hW ds_R rfl) ok_R_lacks mw_1029 ⟨by decide, by decide⟩ (As := [.int (nI j), .int (b2i (isW ν y))]) rfl rfl (Nat.le_of_ble_eq_true rfl) (lv := [(0, .ref (eA E 70)), (1, .int (nI j)), (2, .int y)]) hl ⟨Nat.le_refl 0, Nat.le_refl 0⟩ d_R_fits_7 (fun H locs hW => ?_)
  refine lv_istore_n (lv' := [(3, .int (-1000001)), (0, .ref (eA E 70)), (1, .int (nI j)), (2, .int y)]) X.x X.b d_R_fits_10 rfl hl (by decide) rfl (fun ls hl => ?_)
  refine lv_iload_n X.x X.b d_R_fits_11 rfl (lv_at hl 0 rfl) ?_
  refine lv_if_eq (tgt := 23) X.x X.b d_R_fits_12 (by decide) (fun c12 => ?_) (fun c12 => ?_)
  · exact absurd c12 (by decide)
  · refine lv_aload_n X.x X.b d_R_fits_15 rfl (lv_at hl 1 rfl) ?_
    refine lv_iload_n X.x X.b d_R_fits_16 rfl (lv_at hl 0 rfl) ?_
    refine q_cvi X (c_R_finding_0 l E S ψ (by rw [hψ])) hW (q_recv X hW ds_R rfl) ok_R_finding mw_768 ⟨by decide, by decide⟩ (As := [.int (-1000001)]) rfl rfl (Nat.le_of_ble_eq_true rfl) (lv := [(3, .int (-1000001)), (0, .ref (eA E 70)), (1, .int (nI j)), (2, .int y)]) hl ⟨Nat.le_refl 0, Nat.le_refl 0⟩ d_R_fits_17 (fun H locs hW => ?_)
    have hW : qWH E (qr S 19 (fnR ψ 0)) s H locs := hW
    refine lv_goto (tgt := 40) X.x X.b d_R_fits_20 (by decide) ?_
    exact q_zret X rfl hW ⟨rfl, rfl⟩ d_R_fits_40
set_option maxHeartbeats 1000000 in
set_option maxRecDepth 20000 in
theorem c_R_kinds_g (l : Launch) (E : QE) (S : QM) (ν : Nat → Int32) (hν : S 16 = ν) (hwf : WF ν) (α : Nat → Int32) (hα : S 18 = α) (ω ζ η ψ : Nat → Int32) (hω : S 22 = ω) (hζ : S 23 = ζ) (hη : S 24 = η) (hψ : S 19 = ψ) (j sz : Nat) (hj : j < 4) (hs2 : ζ j = nI sz) (hsz : sz ≤ 40) (hb : ¬ ω j = 0) (t : Nat) (ht : t < nT ν) : qCPi E l y_R_kinds prog_7_method_76_code 4 .int 11 [.ref (eA E 70), .int (nI j), .int (nI t)] S (setS (fun i => goesS (upd ν (20 + 3 * t) (nI i)) sz (shr η j) (20 + 3 * t + 1)) 7) (bhG S ν) := by
  refine qCPi_of (by decide) (Nat.le_of_ble_eq_true rfl) (fun p e s m below meth c ls X hW hl => ?_)
  have hl : lv_has ls 4 [(0, .ref (eA E 70)), (1, .int (nI j)), (2, .int (nI t))] := hl
  have hW : qWH E (qr (qr S 18 α) 16 ν) s s.heap [] := by rw [show qr (qr S 18 α) 16 ν = S from by rw [← hα, qr_self, ← hν, qr_self]]; exact hW
  have htl := hwf.tl
  have hwl := hwf.wl
  have hdl := hwf.dl
  refine lv_aload_n X.x X.b d_R_kinds_0 rfl (lv_at hl 0 rfl) ?_
  refine lv_iload_n X.x X.b d_R_kinds_1 rfl (lv_at hl 1 rfl) ?_
  refine lv_aload_n X.x X.b d_R_kinds_2 rfl (lv_at hl 0 rfl) ?_
  refine lv_iload_n X.x X.b d_R_kinds_3 rfl (lv_at hl 2 rfl) ?_
  refine q_cvi X (c_R_isThing l E (qr (qr S 18 α) 16 ν) ν (by rw [qr_at]) hwf (nI t)) hW (q_recv X hW ds_R rfl) ok_R_isThing mw_809 ⟨by decide, by decide⟩ (As := [.int (nI t)]) rfl rfl (Nat.le_of_ble_eq_true rfl) (lv := [(0, .ref (eA E 70)), (1, .int (nI j)), (2, .int (nI t))]) hl ⟨Nat.le_refl 0, Nat.le_refl 0⟩ d_R_kinds_4 (fun H locs hW => ?_)
  refine q_cvi X (c_R_lacks_c l E (qr (qr S 18 α) 16 ν) ω ζ η ψ (by rw [qr_ne (by omega), qr_ne (by omega), hω]) (by rw [qr_ne (by omega), qr_ne (by omega), hζ]) (by rw [qr_ne (by omega), qr_ne (by omega), hη]) (by rw [qr_ne (by omega), qr_ne (by omega), hψ]) j (b2i (isT ν (nI t))) hj hb (by rw [b2i_t ((isT_i hwf (by omega)).mpr (by omega))]; decide)) hW (q_recv X hW ds_R rfl) ok_R_lacks mw_1029 ⟨by decide, by decide⟩ (As := [.int (nI j), .int (b2i (isT ν (nI t)))]) rfl rfl (Nat.le_of_ble_eq_true rfl) (lv := [(0, .ref (eA E 70)), (1, .int (nI j)), (2, .int (nI t))]) hl ⟨Nat.le_refl 0, Nat.le_refl 0⟩ d_R_kinds_7 (fun H locs hW => ?_)
  refine lv_istore_n (lv' := [(3, .int (nI 0)), (0, .ref (eA E 70)), (1, .int (nI j)), (2, .int (nI t))]) X.x X.b d_R_kinds_10 rfl hl (by decide) rfl (fun ls hl => ?_)
  refine lv_iload_n X.x X.b d_R_kinds_11 rfl (lv_at hl 0 rfl) ?_
  refine lv_if_eq (tgt := 23) X.x X.b d_R_kinds_12 (by decide) (fun c12 => ?_) (fun c12 => ?_)
  · have c12 : 0 = 0 := (nI_eq (a := 0) (b := 0) (by omega) (by omega)).mp c12
    refine lv_aload_n X.x X.b d_R_kinds_23 rfl (lv_at hl 1 rfl) ?_
    refine lv_iload_n X.x X.b d_R_kinds_24 rfl (lv_at hl 2 rfl) ?_
    refine lv_iload_n X.x X.b d_R_kinds_25 rfl (lv_at hl 3 rfl) ?_
    refine lv_iconst (v := nI 1) X.x X.b d_R_kinds_26 (by decide) ?_
    refine q_csi X (c_R_thingAt l E (qr (qr S 18 α) 16 ν) t 1) hW ok_R_thingAt mw_791 ⟨by decide, by decide⟩ (As := [.int (nI t), .int (nI 1)]) rfl rfl (Nat.le_of_ble_eq_true rfl) (lv := [(3, .int (nI 0)), (0, .ref (eA E 70)), (1, .int (nI j)), (2, .int (nI t))]) hl ⟨Nat.le_refl 0, Nat.le_refl 0⟩ d_R_kinds_27 (fun H locs hW => ?_)
    refine lv_iload_n X.x X.b d_R_kinds_30 rfl (lv_at hl 3 rfl) ?_
    refine lv_iconst (v := nI 0) X.x X.b d_R_kinds_31 (by decide) ?_
    refine q_csi X (c_R_thingAt_z l E (qr (qr S 18 α) 16 ν) t) hW ok_R_thingAt mw_791 ⟨by decide, by decide⟩ (As := [.int (nI t), .int (nI 0)]) rfl rfl (Nat.le_of_ble_eq_true rfl) (lv := [(3, .int (nI 0)), (0, .ref (eA E 70)), (1, .int (nI j)), (2, .int (nI t))]) hl ⟨Nat.le_refl 0, Nat.le_refl 0⟩ d_R_kinds_32 (fun H locs hW => ?_)
    refine lv_bipush (v := nI 7) X.x X.b d_R_kinds_35 (by decide) ?_
    refine q_cvip X (c_R_fitting l E (qr (qr S 18 α) 16 ν) ν (by rw [qr_at]) hwf α (by rw [qr_ne (by omega), qr_at]) ζ η (by rw [qr_ne (by omega), qr_ne (by omega), hζ]) (by rw [qr_ne (by omega), qr_ne (by omega), hη]) j sz hj hs2 hsz (20 + 3 * t) 7 (20 + 3 * t + 1) (fun i => goesS (upd ν (20 + 3 * t) (nI i)) sz (shr η j) (20 + 3 * t + 1)) (by omega) (by omega) (by omega) (fun v hv => WF_tk hwf (by omega) (by omega)) (fun v hv μ h => goesS_t (h.eqv ((fun v hv => WF_tk hwf (by omega) (by omega)) v hv)) (h.wf ((fun v hv => WF_tk hwf (by omega) (by omega)) v hv)) (by rw [(h.eqv ((fun v hv => WF_tk hwf (by omega) (by omega)) v hv)).nT, nT_up (by omega)]; exact ht))) hW (q_recv X hW ds_R rfl) ok_R_fitting mw_1037 ⟨by decide, by decide⟩ (As := [.int (nI j), .int (nI (20 + 3 * t + 1)), .int (nI (20 + 3 * t)), .int (nI 7)]) rfl rfl (Nat.le_of_ble_eq_true rfl) (lv := [(3, .int (nI 0)), (0, .ref (eA E 70)), (1, .int (nI j)), (2, .int (nI t))]) hl ⟨Nat.le_refl 0, Nat.le_refl 0⟩ d_R_kinds_37 (fun H locs Sq37 hP37 hW => ?_)
    obtain ⟨τ37, α37, hτ37, rfl⟩ := hP37
    have hW : qWH E (qr (qr S 18 α37) 16 τ37) s H locs := (by have h := hW; rw [qr_in (by omega), qr_in (by omega)] at h; exact h)
    exact q_pzret X rfl hW ⟨rfl, ⟨_, _, hτ37, rfl⟩⟩ d_R_kinds_40
  · exact absurd (by decide) c12
set_option maxHeartbeats 1000000 in
set_option maxRecDepth 20000 in
theorem c_R_kinds_la (l : Launch) (E : QE) (S : QM) (ν : Nat → Int32) (hν : S 16 = ν) (hwf : WF ν) (ω ζ η ψ : Nat → Int32) (hω : S 22 = ω) (hζ : S 23 = ζ) (hη : S 24 = η) (hψ : S 19 = ψ) (x y : Int32) (h : ¬ inR 0 3 x) : qCI E l y_R_kinds prog_7_method_76_code 4 .int 5 [.ref (eA E 70), .int x, .int y] S (-1000001) (qr S 19 (fnR ψ 0)) := by
  refine qCI_of (by decide) (Nat.le_of_ble_eq_true rfl) (fun p e s m below meth c ls X hW hl => ?_)
  have hl : lv_has ls 4 [(0, .ref (eA E 70)), (1, .int x), (2, .int y)] := hl
  have htl := hwf.tl
  have hwl := hwf.wl
  have hdl := hwf.dl
  refine lv_aload_n X.x X.b d_R_kinds_0 rfl (lv_at hl 0 rfl) ?_
  refine lv_iload_n X.x X.b d_R_kinds_1 rfl (lv_at hl 1 rfl) ?_
  refine lv_aload_n X.x X.b d_R_kinds_2 rfl (lv_at hl 0 rfl) ?_
  refine lv_iload_n X.x X.b d_R_kinds_3 rfl (lv_at hl 2 rfl) ?_
  refine q_cvi X (c_R_isThing l E S ν (by rw [hν]) hwf y) hW (q_recv X hW ds_R rfl) ok_R_isThing mw_809 ⟨by decide, by decide⟩ (As := [.int y]) rfl rfl (Nat.le_of_ble_eq_true rfl) (lv := [(0, .ref (eA E 70)), (1, .int x), (2, .int y)]) hl ⟨Nat.le_refl 0, Nat.le_refl 0⟩ d_R_kinds_4 (fun H locs hW => ?_)
  refine q_cvi X (c_R_lacks_a l E S ω ζ η ψ (by rw [hω]) (by rw [hζ]) (by rw [hη]) (by rw [hψ]) x (b2i (isT ν y)) h) hW (q_recv X hW ds_R rfl) ok_R_lacks mw_1029 ⟨by decide, by decide⟩ (As := [.int x, .int (b2i (isT ν y))]) rfl rfl (Nat.le_of_ble_eq_true rfl) (lv := [(0, .ref (eA E 70)), (1, .int x), (2, .int y)]) hl ⟨Nat.le_refl 0, Nat.le_refl 0⟩ d_R_kinds_7 (fun H locs hW => ?_)
  refine lv_istore_n (lv' := [(3, .int (-1000001)), (0, .ref (eA E 70)), (1, .int x), (2, .int y)]) X.x X.b d_R_kinds_10 rfl hl (by decide) rfl (fun ls hl => ?_)
  refine lv_iload_n X.x X.b d_R_kinds_11 rfl (lv_at hl 0 rfl) ?_
  refine lv_if_eq (tgt := 23) X.x X.b d_R_kinds_12 (by decide) (fun c12 => ?_) (fun c12 => ?_)
  · exact absurd c12 (by decide)
  · refine lv_aload_n X.x X.b d_R_kinds_15 rfl (lv_at hl 1 rfl) ?_
    refine lv_iload_n X.x X.b d_R_kinds_16 rfl (lv_at hl 0 rfl) ?_
    refine q_cvi X (c_R_finding_0 l E S ψ (by rw [hψ])) hW (q_recv X hW ds_R rfl) ok_R_finding mw_768 ⟨by decide, by decide⟩ (As := [.int (-1000001)]) rfl rfl (Nat.le_of_ble_eq_true rfl) (lv := [(3, .int (-1000001)), (0, .ref (eA E 70)), (1, .int x), (2, .int y)]) hl ⟨Nat.le_refl 0, Nat.le_refl 0⟩ d_R_kinds_17 (fun H locs hW => ?_)
    have hW : qWH E (qr S 19 (fnR ψ 0)) s H locs := hW
    refine lv_goto (tgt := 40) X.x X.b d_R_kinds_20 (by decide) ?_
    exact q_zret X rfl hW ⟨rfl, rfl⟩ d_R_kinds_40
set_option maxHeartbeats 1000000 in
set_option maxRecDepth 20000 in
theorem c_R_kinds_lb (l : Launch) (E : QE) (S : QM) (ν : Nat → Int32) (hν : S 16 = ν) (hwf : WF ν) (ω ζ η ψ : Nat → Int32) (hω : S 22 = ω) (hζ : S 23 = ζ) (hη : S 24 = η) (hψ : S 19 = ψ) (j : Nat) (y : Int32) (hj : j < 4) (hb : ω j = 0) : qCI E l y_R_kinds prog_7_method_76_code 4 .int 5 [.ref (eA E 70), .int (nI j), .int y] S (-1000006) (qr S 19 (fnR ψ 5)) := by
  refine qCI_of (by decide) (Nat.le_of_ble_eq_true rfl) (fun p e s m below meth c ls X hW hl => ?_)
  have hl : lv_has ls 4 [(0, .ref (eA E 70)), (1, .int (nI j)), (2, .int y)] := hl
  have htl := hwf.tl
  have hwl := hwf.wl
  have hdl := hwf.dl
  refine lv_aload_n X.x X.b d_R_kinds_0 rfl (lv_at hl 0 rfl) ?_
  refine lv_iload_n X.x X.b d_R_kinds_1 rfl (lv_at hl 1 rfl) ?_
  refine lv_aload_n X.x X.b d_R_kinds_2 rfl (lv_at hl 0 rfl) ?_
  refine lv_iload_n X.x X.b d_R_kinds_3 rfl (lv_at hl 2 rfl) ?_
  refine q_cvi X (c_R_isThing l E S ν (by rw [hν]) hwf y) hW (q_recv X hW ds_R rfl) ok_R_isThing mw_809 ⟨by decide, by decide⟩ (As := [.int y]) rfl rfl (Nat.le_of_ble_eq_true rfl) (lv := [(0, .ref (eA E 70)), (1, .int (nI j)), (2, .int y)]) hl ⟨Nat.le_refl 0, Nat.le_refl 0⟩ d_R_kinds_4 (fun H locs hW => ?_)
  refine q_cvi X (c_R_lacks_b l E S ω ζ η ψ (by rw [hω]) (by rw [hζ]) (by rw [hη]) (by rw [hψ]) j (b2i (isT ν y)) hj hb) hW (q_recv X hW ds_R rfl) ok_R_lacks mw_1029 ⟨by decide, by decide⟩ (As := [.int (nI j), .int (b2i (isT ν y))]) rfl rfl (Nat.le_of_ble_eq_true rfl) (lv := [(0, .ref (eA E 70)), (1, .int (nI j)), (2, .int y)]) hl ⟨Nat.le_refl 0, Nat.le_refl 0⟩ d_R_kinds_7 (fun H locs hW => ?_)
  refine lv_istore_n (lv' := [(3, .int (-1000006)), (0, .ref (eA E 70)), (1, .int (nI j)), (2, .int y)]) X.x X.b d_R_kinds_10 rfl hl (by decide) rfl (fun ls hl => ?_)
  refine lv_iload_n X.x X.b d_R_kinds_11 rfl (lv_at hl 0 rfl) ?_
  refine lv_if_eq (tgt := 23) X.x X.b d_R_kinds_12 (by decide) (fun c12 => ?_) (fun c12 => ?_)
  · exact absurd c12 (by decide)
  · refine lv_aload_n X.x X.b d_R_kinds_15 rfl (lv_at hl 1 rfl) ?_
    refine lv_iload_n X.x X.b d_R_kinds_16 rfl (lv_at hl 0 rfl) ?_
    refine q_cvi X (c_R_finding_5 l E S ψ (by rw [hψ])) hW (q_recv X hW ds_R rfl) ok_R_finding mw_768 ⟨by decide, by decide⟩ (As := [.int (-1000006)]) rfl rfl (Nat.le_of_ble_eq_true rfl) (lv := [(3, .int (-1000006)), (0, .ref (eA E 70)), (1, .int (nI j)), (2, .int y)]) hl ⟨Nat.le_refl 0, Nat.le_refl 0⟩ d_R_kinds_17 (fun H locs hW => ?_)
    have hW : qWH E (qr S 19 (fnR ψ 5)) s H locs := hW
    refine lv_goto (tgt := 40) X.x X.b d_R_kinds_20 (by decide) ?_
    exact q_zret X rfl hW ⟨rfl, rfl⟩ d_R_kinds_40
set_option maxHeartbeats 1000000 in
set_option maxRecDepth 20000 in
theorem c_R_kinds_b (l : Launch) (E : QE) (S : QM) (ν : Nat → Int32) (hν : S 16 = ν) (hwf : WF ν) (ω ζ η ψ : Nat → Int32) (hω : S 22 = ω) (hζ : S 23 = ζ) (hη : S 24 = η) (hψ : S 19 = ψ) (j : Nat) (y : Int32) (hj : j < 4) (hb : ¬ ω j = 0) (h : ¬ isT ν y) : qCI E l y_R_kinds prog_7_method_76_code 4 .int 5 [.ref (eA E 70), .int (nI j), .int y] S (-1000001) (qr S 19 (fnR ψ 0)) := by
  refine qCI_of (by decide) (Nat.le_of_ble_eq_true rfl) (fun p e s m below meth c ls X hW hl => ?_)
  have hl : lv_has ls 4 [(0, .ref (eA E 70)), (1, .int (nI j)), (2, .int y)] := hl
  have htl := hwf.tl
  have hwl := hwf.wl
  have hdl := hwf.dl
  refine lv_aload_n X.x X.b d_R_kinds_0 rfl (lv_at hl 0 rfl) ?_
  refine lv_iload_n X.x X.b d_R_kinds_1 rfl (lv_at hl 1 rfl) ?_
  refine lv_aload_n X.x X.b d_R_kinds_2 rfl (lv_at hl 0 rfl) ?_
  refine lv_iload_n X.x X.b d_R_kinds_3 rfl (lv_at hl 2 rfl) ?_
  refine q_cvi X (c_R_isThing l E S ν (by rw [hν]) hwf y) hW (q_recv X hW ds_R rfl) ok_R_isThing mw_809 ⟨by decide, by decide⟩ (As := [.int y]) rfl rfl (Nat.le_of_ble_eq_true rfl) (lv := [(0, .ref (eA E 70)), (1, .int (nI j)), (2, .int y)]) hl ⟨Nat.le_refl 0, Nat.le_refl 0⟩ d_R_kinds_4 (fun H locs hW => ?_)
  refine q_cvi X (c_R_lacks_d l E S ω ζ η ψ (by rw [hω]) (by rw [hζ]) (by rw [hη]) (by rw [hψ]) j (b2i (isT ν y)) hj hb (b2i_f h)) hW (q_recv X hW ds_R rfl) ok_R_lacks mw_1029 ⟨by decide, by decide⟩ (As := [.int (nI j), .int (b2i (isT ν y))]) rfl rfl (Nat.le_of_ble_eq_true rfl) (lv := [(0, .ref (eA E 70)), (1, .int (nI j)), (2, .int y)]) hl ⟨Nat.le_refl 0, Nat.le_refl 0⟩ d_R_kinds_7 (fun H locs hW => ?_)
  refine lv_istore_n (lv' := [(3, .int (-1000001)), (0, .ref (eA E 70)), (1, .int (nI j)), (2, .int y)]) X.x X.b d_R_kinds_10 rfl hl (by decide) rfl (fun ls hl => ?_)
  refine lv_iload_n X.x X.b d_R_kinds_11 rfl (lv_at hl 0 rfl) ?_
  refine lv_if_eq (tgt := 23) X.x X.b d_R_kinds_12 (by decide) (fun c12 => ?_) (fun c12 => ?_)
  · exact absurd c12 (by decide)
  · refine lv_aload_n X.x X.b d_R_kinds_15 rfl (lv_at hl 1 rfl) ?_
    refine lv_iload_n X.x X.b d_R_kinds_16 rfl (lv_at hl 0 rfl) ?_
    refine q_cvi X (c_R_finding_0 l E S ψ (by rw [hψ])) hW (q_recv X hW ds_R rfl) ok_R_finding mw_768 ⟨by decide, by decide⟩ (As := [.int (-1000001)]) rfl rfl (Nat.le_of_ble_eq_true rfl) (lv := [(3, .int (-1000001)), (0, .ref (eA E 70)), (1, .int (nI j)), (2, .int y)]) hl ⟨Nat.le_refl 0, Nat.le_refl 0⟩ d_R_kinds_17 (fun H locs hW => ?_)
    have hW : qWH E (qr S 19 (fnR ψ 0)) s H locs := hW
    refine lv_goto (tgt := 40) X.x X.b d_R_kinds_20 (by decide) ?_
    exact q_zret X rfl hW ⟨rfl, rfl⟩ d_R_kinds_40
