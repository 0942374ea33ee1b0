theorem d_Cm_passDay_0 : decode prog_2_method_10_code 0 = .ok (.aload_n 0, 1) := by decide +kernel
theorem d_Cm_passDay_1 : decode prog_2_method_10_code 1 = .ok (.aload_n 0, 1) := by decide +kernel
theorem d_Cm_passDay_2 : decode prog_2_method_10_code 2 = .ok (.getfield 9, 3) := by decide +kernel
theorem d_Cm_passDay_5 : decode prog_2_method_10_code 5 = .ok (.aload_n 0, 1) := by decide +kernel
theorem d_Cm_passDay_6 : decode prog_2_method_10_code 6 = .ok (.getfield 33, 3) := by decide +kernel
theorem d_Cm_passDay_9 : decode prog_2_method_10_code 9 = .ok (.bipush 6, 2) := by decide +kernel
theorem d_Cm_passDay_11 : decode prog_2_method_10_code 11 = .ok (.irem, 1) := by decide +kernel
theorem d_Cm_passDay_12 : decode prog_2_method_10_code 12 = .ok (.iaload, 1) := by decide +kernel
theorem d_Cm_passDay_13 : decode prog_2_method_10_code 13 = .ok (.invokevirtual 71, 3) := by decide +kernel
theorem d_Cm_passDay_16 : decode prog_2_method_10_code 16 = .ok (.iconst 0, 1) := by decide +kernel
theorem d_Cm_passDay_17 : decode prog_2_method_10_code 17 = .ok (.istore_n 1, 1) := by decide +kernel
theorem d_Cm_passDay_18 : decode prog_2_method_10_code 18 = .ok (.iload_n 1, 1) := by decide +kernel
theorem d_Cm_passDay_19 : decode prog_2_method_10_code 19 = .ok (.aload_n 0, 1) := by decide +kernel
theorem d_Cm_passDay_20 : decode prog_2_method_10_code 20 = .ok (.getfield 30, 3) := by decide +kernel
theorem d_Cm_passDay_23 : decode prog_2_method_10_code 23 = .ok (.if_icmp .ge 43, 3) := by decide +kernel
theorem d_Cm_passDay_26 : decode prog_2_method_10_code 26 = .ok (.aload_n 0, 1) := by decide +kernel
theorem d_Cm_passDay_27 : decode prog_2_method_10_code 27 = .ok (.getfield 20, 3) := by decide +kernel
theorem d_Cm_passDay_30 : decode prog_2_method_10_code 30 = .ok (.iload_n 1, 1) := by decide +kernel
theorem d_Cm_passDay_31 : decode prog_2_method_10_code 31 = .ok (.aaload, 1) := by decide +kernel
theorem d_Cm_passDay_32 : decode prog_2_method_10_code 32 = .ok (.iconst 1, 1) := by decide +kernel
theorem d_Cm_passDay_33 : decode prog_2_method_10_code 33 = .ok (.iaload, 1) := by decide +kernel
theorem d_Cm_passDay_34 : decode prog_2_method_10_code 34 = .ok (.istore_n 2, 1) := by decide +kernel
theorem d_Cm_passDay_35 : decode prog_2_method_10_code 35 = .ok (.aload_n 0, 1) := by decide +kernel
theorem d_Cm_passDay_36 : decode prog_2_method_10_code 36 = .ok (.iload_n 2, 1) := by decide +kernel
theorem d_Cm_passDay_37 : decode prog_2_method_10_code 37 = .ok (.invokevirtual 75, 3) := by decide +kernel
theorem d_Cm_passDay_40 : decode prog_2_method_10_code 40 = .ok (.ifCond .eq 20, 3) := by decide +kernel
theorem d_Cm_passDay_43 : decode prog_2_method_10_code 43 = .ok (.aload_n 0, 1) := by decide +kernel
theorem d_Cm_passDay_44 : decode prog_2_method_10_code 44 = .ok (.aload_n 0, 1) := by decide +kernel
theorem d_Cm_passDay_45 : decode prog_2_method_10_code 45 = .ok (.getfield 20, 3) := by decide +kernel
theorem d_Cm_passDay_48 : decode prog_2_method_10_code 48 = .ok (.iload_n 1, 1) := by decide +kernel
theorem d_Cm_passDay_49 : decode prog_2_method_10_code 49 = .ok (.aaload, 1) := by decide +kernel
theorem d_Cm_passDay_50 : decode prog_2_method_10_code 50 = .ok (.iload_n 2, 1) := by decide +kernel
theorem d_Cm_passDay_51 : decode prog_2_method_10_code 51 = .ok (.aload_n 0, 1) := by decide +kernel
theorem d_Cm_passDay_52 : decode prog_2_method_10_code 52 = .ok (.iload_n 1, 1) := by decide +kernel
theorem d_Cm_passDay_53 : decode prog_2_method_10_code 53 = .ok (.iload_n 2, 1) := by decide +kernel
theorem d_Cm_passDay_54 : decode prog_2_method_10_code 54 = .ok (.invokevirtual 79, 3) := by decide +kernel
theorem d_Cm_passDay_57 : decode prog_2_method_10_code 57 = .ok (.invokevirtual 82, 3) := by decide +kernel
theorem d_Cm_passDay_60 : decode prog_2_method_10_code 60 = .ok (.iinc 1 1, 3) := by decide +kernel
theorem d_Cm_passDay_63 : decode prog_2_method_10_code 63 = .ok (.goto (-45), 3) := by decide +kernel
theorem d_Cm_passDay_66 : decode prog_2_method_10_code 66 = .ok (.iconst 0, 1) := by decide +kernel
theorem d_Cm_passDay_67 : decode prog_2_method_10_code 67 = .ok (.istore_n 1, 1) := by decide +kernel
theorem d_Cm_passDay_68 : decode prog_2_method_10_code 68 = .ok (.iload_n 1, 1) := by decide +kernel
theorem d_Cm_passDay_69 : decode prog_2_method_10_code 69 = .ok (.aload_n 0, 1) := by decide +kernel
theorem d_Cm_passDay_70 : decode prog_2_method_10_code 70 = .ok (.getfield 26, 3) := by decide +kernel
theorem d_Cm_passDay_73 : decode prog_2_method_10_code 73 = .ok (.if_icmp .ge 36, 3) := by decide +kernel
theorem d_Cm_passDay_76 : decode prog_2_method_10_code 76 = .ok (.aload_n 0, 1) := by decide +kernel
theorem d_Cm_passDay_77 : decode prog_2_method_10_code 77 = .ok (.getfield 17, 3) := by decide +kernel
theorem d_Cm_passDay_80 : decode prog_2_method_10_code 80 = .ok (.iload_n 1, 1) := by decide +kernel
theorem d_Cm_passDay_81 : decode prog_2_method_10_code 81 = .ok (.aaload, 1) := by decide +kernel
theorem d_Cm_passDay_82 : decode prog_2_method_10_code 82 = .ok (.astore_n 2, 1) := by decide +kernel
theorem d_Cm_passDay_83 : decode prog_2_method_10_code 83 = .ok (.aload_n 2, 1) := by decide +kernel
theorem d_Cm_passDay_84 : decode prog_2_method_10_code 84 = .ok (.iconst 1, 1) := by decide +kernel
theorem d_Cm_passDay_85 : decode prog_2_method_10_code 85 = .ok (.aload_n 2, 1) := by decide +kernel
theorem d_Cm_passDay_86 : decode prog_2_method_10_code 86 = .ok (.iconst 1, 1) := by decide +kernel
theorem d_Cm_passDay_87 : decode prog_2_method_10_code 87 = .ok (.iaload, 1) := by decide +kernel
theorem d_Cm_passDay_88 : decode prog_2_method_10_code 88 = .ok (.aload_n 2, 1) := by decide +kernel
theorem d_Cm_passDay_89 : decode prog_2_method_10_code 89 = .ok (.iconst 0, 1) := by decide +kernel
theorem d_Cm_passDay_90 : decode prog_2_method_10_code 90 = .ok (.iaload, 1) := by decide +kernel
theorem d_Cm_passDay_91 : decode prog_2_method_10_code 91 = .ok (.aload_n 0, 1) := by decide +kernel
theorem d_Cm_passDay_92 : decode prog_2_method_10_code 92 = .ok (.getfield 33, 3) := by decide +kernel
theorem d_Cm_passDay_95 : decode prog_2_method_10_code 95 = .ok (.invokestatic 86, 3) := by decide +kernel
theorem d_Cm_passDay_98 : decode prog_2_method_10_code 98 = .ok (.iadd, 1) := by decide +kernel
theorem d_Cm_passDay_99 : decode prog_2_method_10_code 99 = .ok (.bipush 16, 2) := by decide +kernel
theorem d_Cm_passDay_101 : decode prog_2_method_10_code 101 = .ok (.irem, 1) := by decide +kernel
theorem d_Cm_passDay_102 : decode prog_2_method_10_code 102 = .ok (.iastore, 1) := by decide +kernel
theorem d_Cm_passDay_103 : decode prog_2_method_10_code 103 = .ok (.iinc 1 1, 3) := by decide +kernel
theorem d_Cm_passDay_106 : decode prog_2_method_10_code 106 = .ok (.goto (-38), 3) := by decide +kernel
theorem d_Cm_passDay_109 : decode prog_2_method_10_code 109 = .ok (.aload_n 0, 1) := by decide +kernel
theorem d_Cm_passDay_110 : decode prog_2_method_10_code 110 = .ok (.aload_n 0, 1) := by decide +kernel
theorem d_Cm_passDay_111 : decode prog_2_method_10_code 111 = .ok (.getfield 33, 3) := by decide +kernel
theorem d_Cm_passDay_114 : decode prog_2_method_10_code 114 = .ok (.iconst 1, 1) := by decide +kernel
theorem d_Cm_passDay_115 : decode prog_2_method_10_code 115 = .ok (.iadd, 1) := by decide +kernel
theorem d_Cm_passDay_116 : decode prog_2_method_10_code 116 = .ok (.ldc 90, 2) := by decide +kernel
theorem d_Cm_passDay_118 : decode prog_2_method_10_code 118 = .ok (.invokestatic 91, 3) := by decide +kernel
theorem d_Cm_passDay_121 : decode prog_2_method_10_code 121 = .ok (.putfield 33, 3) := by decide +kernel
theorem d_Cm_passDay_124 : decode prog_2_method_10_code 124 = .ok (.return_, 1) := by decide +kernel
set_option maxHeartbeats 1000000 in
set_option maxRecDepth 20000 in
theorem c_Cm_passDay (l : Launch) (E : QE) (k : Nat) (hk : k < 3) (S : QM) (ρ : Nat → Int32) (hρ : S k = ρ) (hwf : WF ρ) : qCV E l y_Cm_passDay prog_2_method_10_code 3 4 [.ref (eA E (cB k))] S (qr S k (dayS ρ)) := by
  refine qCV_of (by decide) (Nat.le_of_ble_eq_true rfl) (fun p e s m below meth c ls X hW hl => ?_)
  have hl : lv_has ls 3 [(0, .ref (eA E (cB k)))] := hl
  have htl := hwf.tl
  have hwl := hwf.wl
  have hdl := hwf.dl
  refine lv_aload_n X.x X.b d_Cm_passDay_0 rfl (lv_at hl 0 rfl) ?_
  refine lv_aload_n X.x X.b d_Cm_passDay_1 rfl (lv_at hl 0 rfl) ?_
  refine q_getr X hW qj0 rfl _ (ds_cm hk) 0 (by decide) mw_99 rfl (c1 := cB k + 1) rfl d_Cm_passDay_2 ?_
  refine lv_aload_n X.x X.b d_Cm_passDay_5 rfl (lv_at hl 0 rfl) ?_
  refine g_geti X hW qj0 rfl _ (ds_cm hk) 6 (by decide) mw_115 rfl (r0 := k) (p0 := 0) rfl (v := ρ 0) (by rw [hρ]) d_Cm_passDay_6 ?_
  rw [hwf.d]
  refine lv_bipush (v := nI 6) X.x X.b d_Cm_passDay_9 (by decide) ?_
  refine lv_irem X.x X.b d_Cm_passDay_11 (by decide) ?_
  rw [pk_rem (by omega) (by decide) (by decide)]
  refine g_ald X hW (ds_ls hk) (q_in (by omega) (by decide)) (p0 := 4 + ((nD ρ) % 6)) (q_tn (by omega) (by omega)) (v := ρ (4 + ((nD ρ) % 6))) (by rw [hρ]) d_Cm_passDay_12 ?_
  refine q_cvv X (c_Cm_takeTurn l E k hk S ρ (by rw [hρ]) hwf (ρ (4 + ((nD ρ) % 6)))) hW (q_recv X hW (ds_cm hk) rfl) ok_Cm_takeTurn mw_309 ⟨by decide, by decide⟩ (As := [.int (ρ (4 + ((nD ρ) % 6)))]) rfl rfl (Nat.le_of_ble_eq_true rfl) (lv := [(0, .ref (eA E (cB k)))]) hl ⟨Nat.le_refl 0, Nat.le_refl 0⟩ d_Cm_passDay_13 (fun H locs hW => ?_)
  have hW : qWH E (qr S k (listS ρ (ρ (4 + ((nD ρ) % 6))))) s H locs := hW
  refine lv_iconst (v := nI 0) X.x X.b d_Cm_passDay_16 (by decide) ?_
  refine lv_istore_n (lv' := [(1, .int (nI 0)), (0, .ref (eA E (cB k)))]) X.x X.b d_Cm_passDay_17 rfl hl (by decide) rfl (fun ls hl => ?_)
  have loop18 : ∀ (fu18 : Nat) (j : Nat) (μ : Nat → Int32), j ≤ nW ρ → μ = fo wlkS j (day1 ρ) → Same ρ μ → nW ρ - j < fu18 → ∀ (H : Heap) (locs : List Loc) (ls : Array Slot), qWH E (qr S k μ) s H locs → lv_has ls 3 [(1, .int (nI j)), (0, .ref (eA E (cB k)))] → W p l e (qRm 4) s m ([.ref (eA E (cB k))] : List Value).toArray below meth c H locs 0 0 (MQ below (qQv E (qr S k (dayS ρ)) s.heap.size) ([.ref (eA E (cB k))] : List Value).toArray s 0 0 (qAA E s.heap.size)) (F0 m 18 ls []) := by
    intro fu18
    induction fu18 with
    | zero =>
      intro j μ hj hm hs hfu
      exact absurd hfu (Nat.not_lt_zero _)
    | succ fu18 ih18 =>
      intro j μ hj hm hs hfu H locs ls hW hl
      have htl2 := hs.1.tl
      have hwl2 := hs.1.wl
      have ent := hs.2.1
      have enw := hs.2.2.1
      refine lv_iload_n X.x X.b d_Cm_passDay_18 rfl (lv_at hl 0 rfl) ?_
      refine lv_aload_n X.x X.b d_Cm_passDay_19 rfl (lv_at hl 1 rfl) ?_
      refine g_geti X hW qj0 rfl _ (ds_cm hk) 5 (by decide) mw_112 rfl (r0 := k) (p0 := 3) rfl (v := μ 3) (by rw [qr_at]) d_Cm_passDay_20 ?_
      rw [hs.1.w, enw]
      refine lv_icmp_ge (tgt := 66) X.x X.b d_Cm_passDay_23 (by decide) (fun c23 => ?_) (fun c23 => ?_)
      · have c23 : (nW ρ) ≤ j := (nI_leI (by omega) (by omega)).mp c23
        refine lv_iconst (v := nI 0) X.x X.b d_Cm_passDay_66 (by decide) ?_
        refine lv_istore_n (lv' := [(1, .int (nI 0)), (0, .ref (eA E (cB k)))]) X.x X.b d_Cm_passDay_67 rfl hl (by decide) rfl (fun ls hl => ?_)
        have loop68 : ∀ (fu68 : Nat) (j : Nat) (μ : Nat → Int32), j ≤ nT ρ → μ = fo movS j (day2 ρ) → Same ρ μ → nT ρ - j < fu68 → ∀ (H : Heap) (locs : List Loc) (ls : Array Slot), qWH E (qr S k μ) s H locs → lv_has ls 3 [(1, .int (nI j)), (0, .ref (eA E (cB k)))] → W p l e (qRm 4) s m ([.ref (eA E (cB k))] : List Value).toArray below meth c H locs 0 0 (MQ below (qQv E (qr S k (dayS ρ)) s.heap.size) ([.ref (eA E (cB k))] : List Value).toArray s 0 0 (qAA E s.heap.size)) (F0 m 68 ls []) := by
          intro fu68
          induction fu68 with
          | zero =>
            intro j μ hj hm hs hfu
            exact absurd hfu (Nat.not_lt_zero _)
          | succ fu68 ih68 =>
            intro j μ hj hm hs hfu H locs ls hW hl
            have htl2 := hs.1.tl
            have hwl2 := hs.1.wl
            have ent := hs.2.1
            have enw := hs.2.2.1
            refine lv_iload_n X.x X.b d_Cm_passDay_68 rfl (lv_at hl 0 rfl) ?_
            refine lv_aload_n X.x X.b d_Cm_passDay_69 rfl (lv_at hl 1 rfl) ?_
            refine g_geti X hW qj0 rfl _ (ds_cm hk) 4 (by decide) mw_109 rfl (r0 := k) (p0 := 1) rfl (v := μ 1) (by rw [qr_at]) d_Cm_passDay_70 ?_
            rw [hs.1.t, ent]
            refine lv_icmp_ge (tgt := 109) X.x X.b d_Cm_passDay_73 (by decide) (fun c73 => ?_) (fun c73 => ?_)
            · have c73 : (nT ρ) ≤ j := (nI_leI (by omega) (by omega)).mp c73
              refine lv_aload_n X.x X.b d_Cm_passDay_109 rfl (lv_at hl 1 rfl) ?_
              refine lv_aload_n X.x X.b d_Cm_passDay_110 rfl (lv_at hl 1 rfl) ?_
              refine g_geti X hW qj0 rfl _ (ds_cm hk) 6 (by decide) mw_115 rfl (r0 := k) (p0 := 0) rfl (v := μ 0) (by rw [qr_at]) d_Cm_passDay_111 ?_
              refine lv_iconst (v := nI 1) X.x X.b d_Cm_passDay_114 (by decide) ?_
              refine lv_iadd X.x X.b d_Cm_passDay_115 ?_
              refine lv_ldc (v := nI 99999) X.x X.b X.ow (X.ts _ mw_337) d_Cm_passDay_116 ?_
              refine va_mmin X.x X.b (X.ml.trans hl.1.symm) X.ow (X.ts _ mw_323) (X.ts _ (qTB_in (i := 324) (by decide +kernel) rfl)) (X.ts _ (qTB_in (i := 73) (by decide +kernel) rfl)) (X.ts _ (qTB_in (i := 325) (by decide +kernel) rfl)) (by decide) (Nat.le_of_ble_eq_true rfl) (Nat.le_refl 0) (Nat.le_refl 0) d_Cm_passDay_118 ?_
              refine lv_topi (fun x118 ex118 => ?_)
              refine g_puti X hW qj0 qp0 qn0 rfl _ (ds_cm hk) 6 (by decide) mw_115 rfl rfl (r0 := k) (p0 := 0) rfl rfl rfl (ρ := μ) (by rw [qr_at]) d_Cm_passDay_121 (fun H locs hW => ?_)
              obtain ⟨r121, er121⟩ : ∃ z, z = upd μ 0 x118 := ⟨_, rfl⟩
              rw [← er121] at hW
              rw [qr_qr] at hW
              exact q_vret X hW (by rw [er121, show μ = day3 ρ by rw [hm, show j = nT ρ by omega]; rfl, ex118, show μ = day3 ρ by rw [hm, show j = nT ρ by omega]; rfl]; rfl) d_Cm_passDay_124
            · have c73 : ¬ (nT ρ) ≤ j := fun z => c73 ((nI_leI (by omega) (by omega)).mpr z)
              refine lv_aload_n X.x X.b d_Cm_passDay_76 rfl (lv_at hl 1 rfl) ?_
              refine q_getr X hW qj0 rfl _ (ds_cm hk) 1 (by decide) mw_102 rfl (c1 := cB k + 2) rfl d_Cm_passDay_77 ?_
              refine lv_iload_n X.x X.b d_Cm_passDay_80 rfl (lv_at hl 0 rfl) ?_
              refine g_th hk X hW (show j < 8 by omega) d_Cm_passDay_81 ?_
              refine lv_astore_n (lv' := [(2, .ref (eA E (cB k + 5 + j))), (1, .int (nI j)), (0, .ref (eA E (cB k)))]) X.x X.b d_Cm_passDay_82 rfl hl (by decide) rfl (fun ls hl => ?_)
              refine lv_aload_n X.x X.b d_Cm_passDay_83 rfl (lv_at hl 0 rfl) ?_
              refine lv_iconst (v := nI 1) X.x X.b d_Cm_passDay_84 (by decide) ?_
              refine lv_aload_n X.x X.b d_Cm_passDay_85 rfl (lv_at hl 0 rfl) ?_
              refine lv_iconst (v := nI 1) X.x X.b d_Cm_passDay_86 (by decide) ?_
              refine g_ald X hW (ds_t (t := j) hk (by omega)) (q_in (by omega) (by decide)) (p0 := 20 + 3 * j + 1) (q_tn (by omega) (by omega)) (v := μ (20 + 3 * j + 1)) (by rw [qr_at]) d_Cm_passDay_87 ?_
              refine lv_aload_n X.x X.b d_Cm_passDay_88 rfl (lv_at hl 0 rfl) ?_
              refine lv_iconst (v := nI 0) X.x X.b d_Cm_passDay_89 (by decide) ?_
              refine g_ald X hW (ds_t (t := j) hk (by omega)) (q_in (by omega) (by decide)) (p0 := 20 + 3 * j) (q_tn (by omega) (by omega)) (v := μ (20 + 3 * j)) (by rw [qr_at]) d_Cm_passDay_90 ?_
              refine lv_aload_n X.x X.b d_Cm_passDay_91 rfl (lv_at hl 2 rfl) ?_
              refine g_geti X hW qj0 rfl _ (ds_cm hk) 6 (by decide) mw_115 rfl (r0 := k) (p0 := 0) rfl (v := μ 0) (by rw [qr_at]) d_Cm_passDay_92 ?_
              refine q_csi X (c_Kd_moves l E (qr S k μ) (μ (20 + 3 * j)) (μ 0)) hW ok_Kd_moves mw_336 ⟨by decide, by decide⟩ (As := [.int (μ (20 + 3 * j)), .int (μ 0)]) rfl rfl (Nat.le_of_ble_eq_true rfl) (lv := [(2, .ref (eA E (cB k + 5 + j))), (1, .int (nI j)), (0, .ref (eA E (cB k)))]) hl ⟨Nat.le_refl 0, Nat.le_refl 0⟩ d_Cm_passDay_95 (fun H locs hW => ?_)
              refine lv_iadd X.x X.b d_Cm_passDay_98 ?_
              refine lv_bipush (v := nI 16) X.x X.b d_Cm_passDay_99 (by decide) ?_
              refine lv_irem X.x X.b d_Cm_passDay_101 (by decide) ?_
              refine g_ast X hW (ds_t (t := j) hk (by omega)) (q_in (by omega) (by decide)) (p0 := 20 + 3 * j + 1) (q_tn (by omega) (by omega)) (ρ := μ) (by rw [qr_at]) d_Cm_passDay_102 (fun H locs hW => ?_)
              obtain ⟨r102, er102⟩ : ∃ z, z = upd μ (20 + 3 * j + 1) (((μ (20 + 3 * j + 1)) + (mvs (μ (20 + 3 * j)) (μ 0))) - ((μ (20 + 3 * j + 1)) + (mvs (μ (20 + 3 * j)) (μ 0))) / (nI 16) * (nI 16)) := ⟨_, rfl⟩
              rw [← er102] at hW
              rw [qr_qr] at hW
              refine lv_iinc (v := nI (j + 1)) (lv' := [(1, .int (nI (j + 1))), (2, .ref (eA E (cB k + 5 + j))), (0, .ref (eA E (cB k)))]) X.x X.b d_Cm_passDay_103 hl (k := 1) rfl (by rw [show Int32.ofInt 1 = nI 1 from by decide, nI_add]) (by decide) rfl (fun ls hl => ?_)
              refine lv_goto (tgt := 68) X.x X.b d_Cm_passDay_106 (by decide) ?_
              have hk : movS j μ = r102 := by rw [er102]; rfl
              exact ih68 (j + 1) r102 (by omega) (by rw [← hk, hm]; rfl) (by rw [← hk]; exact hs.tr (movS_same hs.1 (by omega))) (by omega) _ _ _ hW (lv_sub hl [0, 2] rfl)
        exact loop68 (nT ρ - 0 + 1) 0 μ (by omega) (by rw [hm, show j = nW ρ by omega]; rfl) hs (Nat.lt_succ_self _) _ _ _ hW (lv_sub hl [0, 1] rfl)
      · have c23 : ¬ (nW ρ) ≤ j := fun z => c23 ((nI_leI (by omega) (by omega)).mpr z)
        refine lv_aload_n X.x X.b d_Cm_passDay_26 rfl (lv_at hl 1 rfl) ?_
        refine q_getr X hW qj0 rfl _ (ds_cm hk) 2 (by decide) mw_104 rfl (c1 := cB k + 3) rfl d_Cm_passDay_27 ?_
        refine lv_iload_n X.x X.b d_Cm_passDay_30 rfl (lv_at hl 0 rfl) ?_
        refine g_wk hk X hW (show j < 6 by omega) d_Cm_passDay_31 ?_
        refine lv_iconst (v := nI 1) X.x X.b d_Cm_passDay_32 (by decide) ?_
        refine g_ald X hW (ds_w (w := j) hk (by omega)) (q_in (by omega) (by decide)) (p0 := 44 + 6 * j + 1) (q_tn (by omega) (by omega)) (v := μ (44 + 6 * j + 1)) (by rw [qr_at]) d_Cm_passDay_33 ?_
        refine lv_topi (fun x33 ex33 => ?_)
        refine lv_istore_n (lv' := [(2, .int x33), (1, .int (nI j)), (0, .ref (eA E (cB k)))]) X.x X.b d_Cm_passDay_34 rfl hl (by decide) rfl (fun ls hl => ?_)
        refine lv_aload_n X.x X.b d_Cm_passDay_35 rfl (lv_at hl 2 rfl) ?_
        refine lv_iload_n X.x X.b d_Cm_passDay_36 rfl (lv_at hl 0 rfl) ?_
        refine q_cvi X (c_Cm_hasThing l E k hk (qr S k μ) μ (by rw [qr_at]) hs.1 x33) hW (q_recv X hW (ds_cm hk) rfl) ok_Cm_hasThing mw_314 ⟨by decide, by decide⟩ (As := [.int x33]) rfl rfl (Nat.le_of_ble_eq_true rfl) (lv := [(2, .int x33), (1, .int (nI j)), (0, .ref (eA E (cB k)))]) hl ⟨Nat.le_refl 0, Nat.le_refl 0⟩ d_Cm_passDay_37 (fun H locs hW => ?_)
        refine lv_if_eq (tgt := 60) X.x X.b d_Cm_passDay_40 (by decide) (fun c40 => ?_) (fun c40 => ?_)
        · have c40 := b2i_e c40
          refine lv_iinc (v := nI (j + 1)) (lv' := [(1, .int (nI (j + 1))), (2, .int x33), (0, .ref (eA E (cB k)))]) X.x X.b d_Cm_passDay_60 hl (k := 1) rfl (by rw [show Int32.ofInt 1 = nI 1 from by decide, nI_add]) (by decide) rfl (fun ls hl => ?_)
          refine lv_goto (tgt := 18) X.x X.b d_Cm_passDay_63 (by decide) ?_
          have hk : wlkS j μ = μ := by unfold wlkS; rw [← ex33, if_neg c40]
          exact ih18 (j + 1) μ (by omega) (by rw [← hk, hm]; rfl) (by rw [← hk]; exact hs.tr (wlkS_same hs.1 (by omega))) (by omega) _ _ _ hW (lv_sub hl [0, 2] rfl)
        · have c40 := b2i_n c40
          obtain ⟨t40, ht40, rfl⟩ := isT_n hs.1 c40
          refine lv_aload_n X.x X.b d_Cm_passDay_43 rfl (lv_at hl 2 rfl) ?_
          refine lv_aload_n X.x X.b d_Cm_passDay_44 rfl (lv_at hl 2 rfl) ?_
          refine q_getr X hW qj0 rfl _ (ds_cm hk) 2 (by decide) mw_104 rfl (c1 := cB k + 3) rfl d_Cm_passDay_45 ?_
          refine lv_iload_n X.x X.b d_Cm_passDay_48 rfl (lv_at hl 1 rfl) ?_
          refine g_wk hk X hW (show j < 6 by omega) d_Cm_passDay_49 ?_
          refine lv_iload_n X.x X.b d_Cm_passDay_50 rfl (lv_at hl 0 rfl) ?_
          refine lv_aload_n X.x X.b d_Cm_passDay_51 rfl (lv_at hl 2 rfl) ?_
          refine lv_iload_n X.x X.b d_Cm_passDay_52 rfl (lv_at hl 1 rfl) ?_
          refine lv_iload_n X.x X.b d_Cm_passDay_53 rfl (lv_at hl 0 rfl) ?_
          refine q_cvi X (c_Cm_findsWay l E k hk (qr S k μ) μ (by rw [qr_at]) hs.1 j t40 (by omega) (by omega)) hW (q_recv X hW (ds_cm hk) rfl) ok_Cm_findsWay mw_315 ⟨by decide, by decide⟩ (As := [.int (nI j), .int (nI t40)]) rfl rfl (Nat.le_of_ble_eq_true rfl) (lv := [(2, .int (nI t40)), (1, .int (nI j)), (0, .ref (eA E (cB k)))]) hl ⟨Nat.le_refl 0, Nat.le_refl 0⟩ d_Cm_passDay_54 (fun H locs hW => ?_)
          refine q_cvv X (c_Cm_walk l E k hk (qr S k μ) μ (by rw [qr_at]) hs.1 j t40 (by omega) (by omega) (fnd μ j t40)) hW (q_recv X hW (ds_cm hk) rfl) ok_Cm_walk mw_319 ⟨by decide, by decide⟩ (As := [.ref (eA E (cB k + 13 + j)), .int (nI t40), .int (b2i (fnd μ j t40))]) rfl rfl (Nat.le_of_ble_eq_true rfl) (lv := [(2, .int (nI t40)), (1, .int (nI j)), (0, .ref (eA E (cB k)))]) hl ⟨Nat.le_refl 0, Nat.le_refl 0⟩ d_Cm_passDay_57 (fun H locs hW => ?_)
          have hW : qWH E (qr S k (walkS μ j t40 (fnd μ j t40))) s H locs := (by have h := hW; rw [qr_qr] at h; exact h)
          refine lv_iinc (v := nI (j + 1)) (lv' := [(1, .int (nI (j + 1))), (2, .int (nI t40)), (0, .ref (eA E (cB k)))]) X.x X.b d_Cm_passDay_60 hl (k := 1) rfl (by rw [show Int32.ofInt 1 = nI 1 from by decide, nI_add]) (by decide) rfl (fun ls hl => ?_)
          refine lv_goto (tgt := 18) X.x X.b d_Cm_passDay_63 (by decide) ?_
          have hk : wlkS j μ = walkS μ j t40 (fnd μ j t40) := by unfold wlkS; rw [← ex33, if_pos ((isT_i hs.1 (by omega)).mpr ht40), nI_clamp (by omega)]
          exact ih18 (j + 1) (walkS μ j t40 (fnd μ j t40)) (by omega) (by rw [← hk, hm]; rfl) (by rw [← hk]; exact hs.tr (wlkS_same hs.1 (by omega))) (by omega) _ _ _ hW (lv_sub hl [0, 2] rfl)
  exact loop18 (nW ρ - 0 + 1) 0 (listS ρ (ρ (4 + ((nD ρ) % 6)))) (by omega) rfl (day1_same hwf) (Nat.lt_succ_self _) _ _ _ hW (lv_sub hl [0, 1] rfl)
