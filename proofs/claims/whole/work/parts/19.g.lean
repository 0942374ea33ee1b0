theorem d_R_text_0 : decode prog_7_method_94_code 0 = .ok (.aload_n 0, 1) := by decide +kernel
theorem d_R_text_1 : decode prog_7_method_94_code 1 = .ok (.iconst 0, 1) := by decide +kernel
theorem d_R_text_2 : decode prog_7_method_94_code 2 = .ok (.putfield 255, 3) := by decide +kernel
theorem d_R_text_5 : decode prog_7_method_94_code 5 = .ok (.aload_n 0, 1) := by decide +kernel
theorem d_R_text_6 : decode prog_7_method_94_code 6 = .ok (.iconst 0, 1) := by decide +kernel
theorem d_R_text_7 : decode prog_7_method_94_code 7 = .ok (.putfield 277, 3) := by decide +kernel
theorem d_R_text_10 : decode prog_7_method_94_code 10 = .ok (.aload_n 0, 1) := by decide +kernel
theorem d_R_text_11 : decode prog_7_method_94_code 11 = .ok (.iconst 0, 1) := by decide +kernel
theorem d_R_text_12 : decode prog_7_method_94_code 12 = .ok (.putfield 288, 3) := by decide +kernel
theorem d_R_text_15 : decode prog_7_method_94_code 15 = .ok (.aload_n 0, 1) := by decide +kernel
theorem d_R_text_16 : decode prog_7_method_94_code 16 = .ok (.aload_n 0, 1) := by decide +kernel
theorem d_R_text_17 : decode prog_7_method_94_code 17 = .ok (.getfield 9, 3) := by decide +kernel
theorem d_R_text_20 : decode prog_7_method_94_code 20 = .ok (.iconst 1, 1) := by decide +kernel
theorem d_R_text_21 : decode prog_7_method_94_code 21 = .ok (.iaload, 1) := by decide +kernel
theorem d_R_text_22 : decode prog_7_method_94_code 22 = .ok (.putfield 295, 3) := by decide +kernel
theorem d_R_text_25 : decode prog_7_method_94_code 25 = .ok (.aload_n 0, 1) := by decide +kernel
theorem d_R_text_26 : decode prog_7_method_94_code 26 = .ok (.aload_n 0, 1) := by decide +kernel
theorem d_R_text_27 : decode prog_7_method_94_code 27 = .ok (.getfield 9, 3) := by decide +kernel
theorem d_R_text_30 : decode prog_7_method_94_code 30 = .ok (.iconst 3, 1) := by decide +kernel
theorem d_R_text_31 : decode prog_7_method_94_code 31 = .ok (.iaload, 1) := by decide +kernel
theorem d_R_text_32 : decode prog_7_method_94_code 32 = .ok (.putfield 305, 3) := by decide +kernel
theorem d_R_text_35 : decode prog_7_method_94_code 35 = .ok (.aload_n 0, 1) := by decide +kernel
theorem d_R_text_36 : decode prog_7_method_94_code 36 = .ok (.invokevirtual 281, 3) := by decide +kernel
theorem d_R_text_39 : decode prog_7_method_94_code 39 = .ok (.aload_n 0, 1) := by decide +kernel
theorem d_R_text_40 : decode prog_7_method_94_code 40 = .ok (.invokevirtual 324, 3) := by decide +kernel
theorem d_R_text_43 : decode prog_7_method_94_code 43 = .ok (.aload_n 0, 1) := by decide +kernel
theorem d_R_text_44 : decode prog_7_method_94_code 44 = .ok (.getfield 277, 3) := by decide +kernel
theorem d_R_text_47 : decode prog_7_method_94_code 47 = .ok (.ifCond .ne 37, 3) := by decide +kernel
theorem d_R_text_50 : decode prog_7_method_94_code 50 = .ok (.aload_n 0, 1) := by decide +kernel
theorem d_R_text_51 : decode prog_7_method_94_code 51 = .ok (.getfield 267, 3) := by decide +kernel
theorem d_R_text_54 : decode prog_7_method_94_code 54 = .ok (.iconst 3, 1) := by decide +kernel
theorem d_R_text_55 : decode prog_7_method_94_code 55 = .ok (.if_icmp .ne 29, 3) := by decide +kernel
theorem d_R_text_58 : decode prog_7_method_94_code 58 = .ok (.aload_n 0, 1) := by decide +kernel
theorem d_R_text_59 : decode prog_7_method_94_code 59 = .ok (.getfield 22, 3) := by decide +kernel
theorem d_R_text_62 : decode prog_7_method_94_code 62 = .ok (.aload_n 0, 1) := by decide +kernel
theorem d_R_text_63 : decode prog_7_method_94_code 63 = .ok (.getfield 258, 3) := by decide +kernel
theorem d_R_text_66 : decode prog_7_method_94_code 66 = .ok (.iaload, 1) := by decide +kernel
theorem d_R_text_67 : decode prog_7_method_94_code 67 = .ok (.bipush 59, 2) := by decide +kernel
theorem d_R_text_69 : decode prog_7_method_94_code 69 = .ok (.if_icmp .ne 15, 3) := by decide +kernel
theorem d_R_text_72 : decode prog_7_method_94_code 72 = .ok (.aload_n 0, 1) := by decide +kernel
theorem d_R_text_73 : decode prog_7_method_94_code 73 = .ok (.iconst 1, 1) := by decide +kernel
theorem d_R_text_74 : decode prog_7_method_94_code 74 = .ok (.invokevirtual 284, 3) := by decide +kernel
theorem d_R_text_77 : decode prog_7_method_94_code 77 = .ok (.aload_n 0, 1) := by decide +kernel
theorem d_R_text_78 : decode prog_7_method_94_code 78 = .ok (.invokevirtual 324, 3) := by decide +kernel
theorem d_R_text_81 : decode prog_7_method_94_code 81 = .ok (.goto (-38), 3) := by decide +kernel
theorem d_R_text_84 : decode prog_7_method_94_code 84 = .ok (.aload_n 0, 1) := by decide +kernel
theorem d_R_text_85 : decode prog_7_method_94_code 85 = .ok (.aload_n 0, 1) := by decide +kernel
theorem d_R_text_86 : decode prog_7_method_94_code 86 = .ok (.getfield 267, 3) := by decide +kernel
theorem d_R_text_89 : decode prog_7_method_94_code 89 = .ok (.ifCond .ne 7, 3) := by decide +kernel
theorem d_R_text_92 : decode prog_7_method_94_code 92 = .ok (.iconst 1, 1) := by decide +kernel
theorem d_R_text_93 : decode prog_7_method_94_code 93 = .ok (.goto 4, 3) := by decide +kernel
theorem d_R_text_97 : decode prog_7_method_94_code 97 = .ok (.invokevirtual 284, 3) := by decide +kernel
theorem d_R_text_100 : decode prog_7_method_94_code 100 = .ok (.aload_n 0, 1) := by decide +kernel
theorem d_R_text_101 : decode prog_7_method_94_code 101 = .ok (.iconst 0, 1) := by decide +kernel
theorem d_R_text_102 : decode prog_7_method_94_code 102 = .ok (.putfield 251, 3) := by decide +kernel
theorem d_R_text_105 : decode prog_7_method_94_code 105 = .ok (.aload_n 0, 1) := by decide +kernel
theorem d_R_text_106 : decode prog_7_method_94_code 106 = .ok (.getfield 277, 3) := by decide +kernel
theorem d_R_text_109 : decode prog_7_method_94_code 109 = .ok (.ifCond .eq 10, 3) := by decide +kernel
theorem d_R_text_119 : decode prog_7_method_94_code 119 = .ok (.iconst 0, 1) := by decide +kernel
theorem d_R_text_120 : decode prog_7_method_94_code 120 = .ok (.istore_n 1, 1) := by decide +kernel
theorem d_R_text_121 : decode prog_7_method_94_code 121 = .ok (.iload_n 1, 1) := by decide +kernel
theorem d_R_text_122 : decode prog_7_method_94_code 122 = .ok (.aload_n 0, 1) := by decide +kernel
theorem d_R_text_123 : decode prog_7_method_94_code 123 = .ok (.getfield 288, 3) := by decide +kernel
theorem d_R_text_126 : decode prog_7_method_94_code 126 = .ok (.if_icmp .ge 16, 3) := by decide +kernel
theorem d_R_text_129 : decode prog_7_method_94_code 129 = .ok (.aload_n 0, 1) := by decide +kernel
theorem d_R_text_130 : decode prog_7_method_94_code 130 = .ok (.iconst 5, 1) := by decide +kernel
theorem d_R_text_131 : decode prog_7_method_94_code 131 = .ok (.iload_n 1, 1) := by decide +kernel
theorem d_R_text_132 : decode prog_7_method_94_code 132 = .ok (.imul, 1) := by decide +kernel
theorem d_R_text_133 : decode prog_7_method_94_code 133 = .ok (.invokevirtual 327, 3) := by decide +kernel
theorem d_R_text_136 : decode prog_7_method_94_code 136 = .ok (.iinc 1 1, 3) := by decide +kernel
theorem d_R_text_139 : decode prog_7_method_94_code 139 = .ok (.goto (-18), 3) := by decide +kernel
theorem d_R_text_142 : decode prog_7_method_94_code 142 = .ok (.aload_n 0, 1) := by decide +kernel
theorem d_R_text_143 : decode prog_7_method_94_code 143 = .ok (.getfield 288, 3) := by decide +kernel
theorem d_R_text_146 : decode prog_7_method_94_code 146 = .ok (.ireturn, 1) := by decide +kernel
theorem d_R_text_96 : decode prog_7_method_94_code 96 = .ok (.iconst 0, 1) := by decide +kernel
theorem d_R_text_112 : decode prog_7_method_94_code 112 = .ok (.iconst (-1), 1) := by decide +kernel
theorem d_R_text_113 : decode prog_7_method_94_code 113 = .ok (.aload_n 0, 1) := by decide +kernel
theorem d_R_text_114 : decode prog_7_method_94_code 114 = .ok (.getfield 258, 3) := by decide +kernel
theorem d_R_text_117 : decode prog_7_method_94_code 117 = .ok (.isub, 1) := by decide +kernel
theorem d_R_text_118 : decode prog_7_method_94_code 118 = .ok (.ireturn, 1) := by decide +kernel
set_option maxHeartbeats 1000000 in
set_option maxRecDepth 20000 in
theorem c_R_text_g (l : Launch) (E : QE) (S : QM) (υ ξ ι ν : Nat → Int32) (hυ : S 15 = υ) (hξ : S 20 = ξ) (hι : S 21 = ι) (hν : S 16 = ν) (hwf : WF ν) (len : Nat) (kp : Int32) (kυ_3 : υ 3 = kp) (kυ_6 : υ 6 = nI len) (hlen : len ≤ 120) (h0 : ∀ i, i < len → 0 ≤ ξ i) (h : nI 0 < (rAll ξ len 120 0 0 ν).1) : qCPi E l y_R_text prog_7_method_94_code 2 .int 9 [.ref (eA E 70)] S ((rAll ξ len 120 0 0 ν).1) (fun u => ∃ τ κ, τ 3 = kp ∧ τ 6 = nI 0 ∧ u = qr (qr (qr S 21 κ) 15 τ) 16 (rAll ξ len 120 0 0 ν).2) := by
  refine qCPi_of (by decide) (Nat.le_of_ble_eq_true rfl) (fun p e s m below meth c ls X hW hl => ?_)
  have hl : lv_has ls 2 [(0, .ref (eA E 70))] := hl
  have hW : qWH E (qr (qr S 21 ι) 15 υ) s s.heap [] := by rw [show qr (qr S 21 ι) 15 υ = S from by rw [← hι, qr_self, ← hυ, qr_self]]; exact hW
  have htl := hwf.tl
  have hwl := hwf.wl
  have hdl := hwf.dl
  refine lv_aload_n X.x X.b d_R_text_0 rfl (lv_at hl 0 rfl) ?_
  refine lv_iconst (v := nI 0) X.x X.b d_R_text_1 (by decide) ?_
  refine g_puti X hW qj4 qp4 qn4 rfl _ ds_R 8 (by decide) mw_694 rfl rfl (r0 := 15) (p0 := 8) rfl rfl rfl (ρ := υ) (by rw [qr_at]) d_R_text_2 (fun H locs hW => ?_)
  obtain ⟨r2, er2⟩ : ∃ z, z = upd υ 8 (nI 0) := ⟨_, rfl⟩
  rw [← er2] at hW
  have kr2_3 : r2 3 = kp := by rw [er2, upN (by omega)]; exact kυ_3
  have kr2_6 : r2 6 = nI len := by rw [er2, upN (by omega)]; exact kυ_6
  have kr2_8 : r2 8 = nI 0 := by rw [er2, upd_at]
  rw [qr_qr] at hW
  refine lv_aload_n X.x X.b d_R_text_5 rfl (lv_at hl 0 rfl) ?_
  refine lv_iconst (v := nI 0) X.x X.b d_R_text_6 (by decide) ?_
  refine g_puti X hW qj4 qp4 qn4 rfl _ ds_R 11 (by decide) mw_697 rfl rfl (r0 := 15) (p0 := 11) rfl (by decide) (by decide) (ρ := r2) (by rw [qr_at]) d_R_text_7 (fun H locs hW => ?_)
  obtain ⟨r7, er7⟩ : ∃ z, z = upd r2 11 (nI 0) := ⟨_, rfl⟩
  rw [← er7] at hW
  have kr7_3 : r7 3 = kp := by rw [er7, upN (by omega)]; exact kr2_3
  have kr7_6 : r7 6 = nI len := by rw [er7, upN (by omega)]; exact kr2_6
  have kr7_8 : r7 8 = nI 0 := by rw [er7, upN (by omega)]; exact kr2_8
  have kr7_11 : r7 11 = nI 0 := by rw [er7, upd_at]
  rw [qr_qr] at hW
  refine lv_aload_n X.x X.b d_R_text_10 rfl (lv_at hl 0 rfl) ?_
  refine lv_iconst (v := nI 0) X.x X.b d_R_text_11 (by decide) ?_
  refine g_puti X hW qj4 qp4 qn4 rfl _ ds_R 14 (by decide) mw_700 rfl rfl (r0 := 15) (p0 := 14) rfl rfl rfl (ρ := r7) (by rw [qr_at]) d_R_text_12 (fun H locs hW => ?_)
  obtain ⟨r12, er12⟩ : ∃ z, z = upd r7 14 (nI 0) := ⟨_, rfl⟩
  rw [← er12] at hW
  have kr12_11 : r12 11 = nI 0 := by rw [er12, upN (by omega)]; exact kr7_11
  have kr12_3 : r12 3 = kp := by rw [er12, upN (by omega)]; exact kr7_3
  have kr12_6 : r12 6 = nI len := by rw [er12, upN (by omega)]; exact kr7_6
  have kr12_8 : r12 8 = nI 0 := by rw [er12, upN (by omega)]; exact kr7_8
  have kr12_14 : r12 14 = nI 0 := by rw [er12, upd_at]
  rw [qr_qr] at hW
  refine lv_aload_n X.x X.b d_R_text_15 rfl (lv_at hl 0 rfl) ?_
  refine lv_aload_n X.x X.b d_R_text_16 rfl (lv_at hl 0 rfl) ?_
  refine q_getr X hW qj4 rfl _ ds_R 0 (by decide) mw_686 rfl (c1 := 71) rfl d_R_text_17 ?_
  refine lv_iconst (v := nI 1) X.x X.b d_R_text_20 (by decide) ?_
  refine g_ald X hW ds_71 (q_in (by omega) (by decide)) (p0 := 1) (q_tn (by omega) (by omega)) (v := ν 1) (by rw [qr_ne (by omega), qr_ne (by omega), hν]) d_R_text_21 ?_
  rw [hwf.t]
  refine g_puti X hW qj4 qp4 qn4 rfl _ ds_R 15 (by decide) mw_701 rfl rfl (r0 := 15) (p0 := 15) rfl rfl rfl (ρ := r12) (by rw [qr_at]) d_R_text_22 (fun H locs hW => ?_)
  obtain ⟨r22, er22⟩ : ∃ z, z = upd r12 15 (nI (nT ν)) := ⟨_, rfl⟩
  rw [← er22] at hW
  have kr22_11 : r22 11 = nI 0 := by rw [er22, upN (by omega)]; exact kr12_11
  have kr22_14 : r22 14 = nI 0 := by rw [er22, upN (by omega)]; exact kr12_14
  have kr22_3 : r22 3 = kp := by rw [er22, upN (by omega)]; exact kr12_3
  have kr22_6 : r22 6 = nI len := by rw [er22, upN (by omega)]; exact kr12_6
  have kr22_8 : r22 8 = nI 0 := by rw [er22, upN (by omega)]; exact kr12_8
  have kr22_15 : r22 15 = nI (nT ν) := by rw [er22, upd_at]
  rw [qr_qr] at hW
  refine lv_aload_n X.x X.b d_R_text_25 rfl (lv_at hl 0 rfl) ?_
  refine lv_aload_n X.x X.b d_R_text_26 rfl (lv_at hl 0 rfl) ?_
  refine q_getr X hW qj4 rfl _ ds_R 0 (by decide) mw_686 rfl (c1 := 71) rfl d_R_text_27 ?_
  refine lv_iconst (v := nI 3) X.x X.b d_R_text_30 (by decide) ?_
  refine g_ald X hW ds_71 (q_in (by omega) (by decide)) (p0 := 3) (q_tn (by omega) (by omega)) (v := ν 3) (by rw [qr_ne (by omega), qr_ne (by omega), hν]) d_R_text_31 ?_
  rw [hwf.w]
  refine g_puti X hW qj4 qp4 qn4 rfl _ ds_R 16 (by decide) mw_702 rfl rfl (r0 := 15) (p0 := 16) rfl rfl rfl (ρ := r22) (by rw [qr_at]) d_R_text_32 (fun H locs hW => ?_)
  obtain ⟨r32, er32⟩ : ∃ z, z = upd r22 16 (nI (nW ν)) := ⟨_, rfl⟩
  rw [← er32] at hW
  have kr32_11 : r32 11 = nI 0 := by rw [er32, upN (by omega)]; exact kr22_11
  have kr32_14 : r32 14 = nI 0 := by rw [er32, upN (by omega)]; exact kr22_14
  have kr32_15 : r32 15 = nI (nT ν) := by rw [er32, upN (by omega)]; exact kr22_15
  have kr32_3 : r32 3 = kp := by rw [er32, upN (by omega)]; exact kr22_3
  have kr32_6 : r32 6 = nI len := by rw [er32, upN (by omega)]; exact kr22_6
  have kr32_8 : r32 8 = nI 0 := by rw [er32, upN (by omega)]; exact kr22_8
  have kr32_16 : r32 16 = nI (nW ν) := by rw [er32, upd_at]
  rw [qr_qr] at hW
  refine lv_aload_n X.x X.b d_R_text_35 rfl (lv_at hl 0 rfl) ?_
  refine q_cvvp X (c_R_token l E (qr (qr S 21 ι) 15 r32) r32 ξ (by rw [qr_at]) (by rw [qr_ne (by omega), qr_ne (by omega), hξ]) len 0 kp (nI 0) 0 (nT ν) (nW ν) kr32_3 kr32_6 kr32_8 kr32_11 kr32_14 kr32_15 kr32_16 (by omega) hlen h0) hW (q_recv X hW ds_R rfl) ok_R_token mw_1078 ⟨by decide, by decide⟩ (As := []) rfl rfl (Nat.le_of_ble_eq_true rfl) (lv := [(0, .ref (eA E 70))]) hl ⟨Nat.le_refl 0, Nat.le_refl 0⟩ d_R_text_36 (fun H locs Sq36 hP36 hW => ?_)
  obtain ⟨τ36, hτ36, rfl⟩ := hP36
  have hW : qWH E (qr (qr S 21 ι) 15 τ36) s H locs := (by have h := hW; rw [qr_qr] at h; exact h)
  obtain ⟨kτ36_3, kτ36_6, kτ36_7, kτ36_8, kτ36_9, kτ36_10, kτ36_11, kτ36_14, kτ36_15, kτ36_16⟩ := id hτ36
  have bτ36 := tN_n (σ := ξ) (len := len) (n := 0) (by omega)
  have dτ36 := tN_le (σ := ξ) (len := len) (n := 0) (by omega)
  have eτ36 := kR_le (σ := ξ) (len := len) (n := 0)
  have hGr : rAll ξ len (120 - 0) 0 0 ν = rAll ξ len 120 0 0 ν := rfl
  refine lv_aload_n X.x X.b d_R_text_39 rfl (lv_at hl 0 rfl) ?_
  refine q_cvvp X (c_R_readItem l E (qr (qr S 21 ι) 15 τ36) τ36 ξ ι ν (by rw [qr_at]) (by rw [qr_ne (by omega), qr_ne (by omega), hξ]) (by rw [qr_ne (by omega), qr_at]) hwf len 0 kp 0 hτ36 (by omega) hlen h0 (by omega)) hW (q_recv X hW ds_R rfl) ok_R_readItem mw_1086 ⟨by decide, by decide⟩ (As := []) rfl rfl (Nat.le_of_ble_eq_true rfl) (lv := [(0, .ref (eA E 70))]) hl ⟨Nat.le_refl 0, Nat.le_refl 0⟩ d_R_text_40 (fun H locs Sq40 hP40 hW => ?_)
  obtain ⟨τ40, κ40, ta40, wa40, mq40, hτ40, hg40, rfl⟩ := hP40
  have hW : qWH E (qr (qr S 21 κ40) 15 τ40) s H locs := (by have h := hW; rw [qr_in (by omega), qr_in (by omega)] at h; exact h)
  have zi40 := rItm_le (σ := ξ) (len := len) (ρ := ν) (n := 0) (by omega)
  have zi40a := zi40.1
  have zi40b := zi40.2.1
  have hb : (rItm ξ len 0 ν).1 = true := Classical.byContradiction fun z => by rw [← hGr, rAll_b (k := 0) (by omega) z] at h; exact neg1 (by have q2 := tS_le (σ := ξ) (len := len) (n := (rItm ξ len 0 ν).2.1) zi40b; omega) h
  rw [if_pos hb] at hτ40
  obtain ⟨rfl, rfl, rfl, hok, hap, hlo⟩ := hg40 hb
  have zj40 := zi40.2.2 hb
  have hGs : gRes ξ len (0 + 1) (rItm ξ len 0 ν).2.1 (rItm ξ len 0 ν).2.2 = rAll ξ len 120 0 0 ν := (rAll_s (k := 0) (by omega) hb).symm.trans hGr
  obtain ⟨kτ40_3, kτ40_6, kτ40_7, kτ40_8, kτ40_9, kτ40_10, kτ40_11, kτ40_14, kτ40_15, kτ40_16⟩ := id hτ40
  have bτ40 := tN_n (σ := ξ) (len := len) (n := (rItm ξ len 0 ν).2.1) (by omega)
  have dτ40 := tN_le (σ := ξ) (len := len) (n := (rItm ξ len 0 ν).2.1) (by omega)
  have eτ40 := kR_le (σ := ξ) (len := len) (n := (rItm ξ len 0 ν).2.1)
  have loop43 : ∀ (fu43 : Nat) (mi : Nat) (n : Nat) (μ : Nat → Int32) (κ : Nat → Int32) (τ : Nat → Int32), stK ξ len n kp (nI 0) mi (nT μ) (nW μ) τ → n ≤ len → 1 ≤ mi → 2 * mi ≤ n + 1 → WF μ → fo (apl κ) mi ν = μ → (∀ q, q < mi → okI κ q (fo (apl κ) q ν) ∧ WF (fo (apl κ) q ν)) → gRes ξ len mi n μ = rAll ξ len 120 0 0 ν → len - n < fu43 → ∀ (H : Heap) (locs : List Loc) (ls : Array Slot), qWH E (qr (qr S 21 κ) 15 τ) s H locs → lv_has ls 2 [(0, .ref (eA E 70))] → W p l e (qRm 9) s m ([.ref (eA E 70)] : List Value).toArray below meth c H locs 0 0 (MQ below (qQpi E ((rAll ξ len 120 0 0 ν).1) (fun u => ∃ τ κ, τ 3 = kp ∧ τ 6 = nI 0 ∧ u = qr (qr (qr S 21 κ) 15 τ) 16 (rAll ξ len 120 0 0 ν).2) s.heap.size) ([.ref (eA E 70)] : List Value).toArray s 0 0 (qAA E s.heap.size)) (F0 m 43 ls []) := by
    intro fu43
    induction fu43 with
    | zero =>
      intro mi n μ κ τ hτ hn hm1 hm2 hμ hfo hal hG hfu
      exact absurd hfu (Nat.not_lt_zero _)
    | succ fu43 ih43 =>
      intro mi n μ κ τ hτ hn hm1 hm2 hμ hfo hal hG hfu H locs ls hW hl
      obtain ⟨kτ_3, kτ_6, kτ_7, kτ_8, kτ_9, kτ_10, kτ_11, kτ_14, kτ_15, kτ_16⟩ := id hτ
      have bτ := tN_n (σ := ξ) (len := len) (n := n) (by omega)
      have dτ := tN_le (σ := ξ) (len := len) (n := n) (by omega)
      have eτ := kR_le (σ := ξ) (len := len) (n := n)
      refine lv_aload_n X.x X.b d_R_text_43 rfl (lv_at hl 0 rfl) ?_
      refine g_geti X hW qj4 rfl _ ds_R 11 (by decide) mw_697 rfl (r0 := 15) (p0 := 11) rfl (v := τ 11) (by rw [qr_at]) d_R_text_44 ?_
      rw [kτ_11]
      refine lv_if_ne (tgt := 84) X.x X.b d_R_text_47 (by decide) (fun c47 => ?_) (fun c47 => ?_)
      · exact absurd (by decide) c47
      · have c47 : 0 = 0 := (nI_eq (a := 0) (b := 0) (by omega) (by omega)).mp c47
        refine lv_aload_n X.x X.b d_R_text_50 rfl (lv_at hl 0 rfl) ?_
        refine g_geti X hW qj4 rfl _ ds_R 9 (by decide) mw_695 rfl (r0 := 15) (p0 := 9) rfl (v := τ 9) (by rw [qr_at]) d_R_text_51 ?_
        rw [kτ_9]
        refine lv_iconst (v := nI 3) X.x X.b d_R_text_54 (by decide) ?_
        refine lv_icmp_ne (tgt := 84) X.x X.b d_R_text_55 (by decide) (fun c55 => ?_) (fun c55 => ?_)
        · have c55 : ¬ (kR (tK ξ len n)) = 3 := fun z => c55 ((nI_eq (a := (kR (tK ξ len n))) (b := 3) (by omega) (by omega)).mpr z)
          refine lv_aload_n X.x X.b d_R_text_84 rfl (lv_at hl 0 rfl) ?_
          refine lv_aload_n X.x X.b d_R_text_85 rfl (lv_at hl 0 rfl) ?_
          refine g_geti X hW qj4 rfl _ ds_R 9 (by decide) mw_695 rfl (r0 := 15) (p0 := 9) rfl (v := τ 9) (by rw [qr_at]) d_R_text_86 ?_
          rw [kτ_9]
          refine lv_if_ne (tgt := 96) X.x X.b d_R_text_89 (by decide) (fun c89 => ?_) (fun c89 => ?_)
          · have c89 : ¬ (kR (tK ξ len n)) = 0 := fun z => c89 ((nI_eq (a := (kR (tK ξ len n))) (b := 0) (by omega) (by omega)).mpr z)
            have z0 : ¬ tK ξ len n = 0 := fun z => c89 (kR_0.mpr z)
            have z3 : ¬ tK ξ len n = 3 := fun z => c55 (by rw [z]; rfl)
            rw [← hG, gRes_x z0 z3] at h
            exact absurd h (neg1 (by have q2 := tS_le (σ := ξ) hn; omega))
          · have c89 : (kR (tK ξ len n)) = 0 := (nI_eq (a := (kR (tK ξ len n))) (b := 0) (by omega) (by omega)).mp c89
            refine lv_iconst (v := nI 1) X.x X.b d_R_text_92 (by decide) ?_
            refine lv_goto (tgt := 97) X.x X.b d_R_text_93 (by decide) ?_
            refine q_cvvp X (c_R_must_t l E (qr (qr S 21 κ) 15 τ) τ ξ (by rw [qr_at]) (by rw [qr_ne (by omega), qr_ne (by omega), hξ]) len n kp mi (nT μ) (nW μ) hτ (by omega) hlen h0) hW (q_recv X hW ds_R rfl) ok_R_must mw_1100 ⟨by decide, by decide⟩ (As := [.int (nI 1)]) rfl rfl (Nat.le_of_ble_eq_true rfl) (lv := [(0, .ref (eA E 70))]) hl ⟨Nat.le_refl 0, Nat.le_refl 0⟩ d_R_text_97 (fun H locs Sq97 hP97 hW => ?_)
            obtain ⟨τ97, hτ97, rfl⟩ := hP97
            have hW : qWH E (qr (qr S 21 κ) 15 τ97) s H locs := (by have h := hW; rw [qr_qr] at h; exact h)
            obtain ⟨kτ97_3, kτ97_6, kτ97_7, kτ97_8, kτ97_9, kτ97_10, kτ97_11, kτ97_14, kτ97_15, kτ97_16⟩ := id hτ97
            have bτ97 := tN_n (σ := ξ) (len := len) (n := tN ξ len n) (by omega)
            have dτ97 := tN_le (σ := ξ) (len := len) (n := tN ξ len n) (by omega)
            have eτ97 := kR_le (σ := ξ) (len := len) (n := tN ξ len n)
            refine lv_aload_n X.x X.b d_R_text_100 rfl (lv_at hl 0 rfl) ?_
            refine lv_iconst (v := nI 0) X.x X.b d_R_text_101 (by decide) ?_
            refine g_puti X hW qj4 qp4 qn4 rfl _ ds_R 6 (by decide) mw_692 rfl rfl (r0 := 15) (p0 := 6) rfl rfl rfl (ρ := τ97) (by rw [qr_at]) d_R_text_102 (fun H locs hW => ?_)
            obtain ⟨r102, er102⟩ : ∃ z, z = upd τ97 6 (nI 0) := ⟨_, rfl⟩
            rw [← er102] at hW
            have kr102_10 : r102 10 = tV ξ len (tN ξ len n) := by rw [er102, upN (by omega)]; exact kτ97_10
            have kr102_11 : r102 11 = nI 0 := by rw [er102, upN (by omega)]; exact kτ97_11
            have kr102_14 : r102 14 = nI mi := by rw [er102, upN (by omega)]; exact kτ97_14
            have kr102_15 : r102 15 = nI (nT μ) := by rw [er102, upN (by omega)]; exact kτ97_15
            have kr102_16 : r102 16 = nI (nW μ) := by rw [er102, upN (by omega)]; exact kτ97_16
            have kr102_3 : r102 3 = kp := by rw [er102, upN (by omega)]; exact kτ97_3
            have kr102_6 : r102 6 = nI 0 := by rw [er102, upd_at]
            have kr102_7 : r102 7 = nI (tS ξ len (tN ξ len n)) := by rw [er102, upN (by omega)]; exact kτ97_7
            have kr102_8 : r102 8 = nI (tN ξ len (tN ξ len n)) := by rw [er102, upN (by omega)]; exact kτ97_8
            have kr102_9 : r102 9 = nI (kR (tK ξ len (tN ξ len n))) := by rw [er102, upN (by omega)]; exact kτ97_9
            rw [qr_qr] at hW
            refine lv_aload_n X.x X.b d_R_text_105 rfl (lv_at hl 0 rfl) ?_
            refine g_geti X hW qj4 rfl _ ds_R 11 (by decide) mw_697 rfl (r0 := 15) (p0 := 11) rfl (v := r102 11) (by rw [qr_at]) d_R_text_106 ?_
            rw [kr102_11]
            refine lv_if_eq (tgt := 119) X.x X.b d_R_text_109 (by decide) (fun c109 => ?_) (fun c109 => ?_)
            · have c109 : 0 = 0 := (nI_eq (a := 0) (b := 0) (by omega) (by omega)).mp c109
              refine lv_iconst (v := nI 0) X.x X.b d_R_text_119 (by decide) ?_
              refine lv_istore_n (lv' := [(1, .int (nI 0)), (0, .ref (eA E 70))]) X.x X.b d_R_text_120 rfl hl (by decide) rfl (fun ls hl => ?_)
              have hW : qWH E (qr (qr (qr S 21 κ) 15 r102) 16 ν) s H locs := by rw [qr_selfE (by rw [qr_ne (by omega), qr_ne (by omega), hν])]; exact hW
              have loop121 : ∀ (fu121 : Nat) (k : Nat) (δ : Nat → Int32), k ≤ mi → δ = fo (apl κ) k ν → mi - k < fu121 → ∀ (H : Heap) (locs : List Loc) (ls : Array Slot), qWH E (qr (qr (qr S 21 κ) 15 r102) 16 δ) s H locs → lv_has ls 2 [(1, .int (nI k)), (0, .ref (eA E 70))] → W p l e (qRm 9) s m ([.ref (eA E 70)] : List Value).toArray below meth c H locs 0 0 (MQ below (qQpi E ((rAll ξ len 120 0 0 ν).1) (fun u => ∃ τ κ, τ 3 = kp ∧ τ 6 = nI 0 ∧ u = qr (qr (qr S 21 κ) 15 τ) 16 (rAll ξ len 120 0 0 ν).2) s.heap.size) ([.ref (eA E 70)] : List Value).toArray s 0 0 (qAA E s.heap.size)) (F0 m 121 ls []) := by
                intro fu121
                induction fu121 with
                | zero =>
                  intro k δ hk1 hd hfu
                  exact absurd hfu (Nat.not_lt_zero _)
                | succ fu121 ih121 =>
                  intro k δ hk1 hd hfu H locs ls hW hl
                  refine lv_iload_n X.x X.b d_R_text_121 rfl (lv_at hl 0 rfl) ?_
                  refine lv_aload_n X.x X.b d_R_text_122 rfl (lv_at hl 1 rfl) ?_
                  refine g_geti X hW qj4 rfl _ ds_R 14 (by decide) mw_700 rfl (r0 := 15) (p0 := 14) rfl (v := r102 14) (by rw [qr_ne (by omega), qr_at]) d_R_text_123 ?_
                  rw [kr102_14]
                  refine lv_icmp_ge (tgt := 142) X.x X.b d_R_text_126 (by decide) (fun c126 => ?_) (fun c126 => ?_)
                  · have c126 : mi ≤ k := (nI_leI (a := mi) (b := k) (by omega) (by omega)).mp c126
                    refine lv_aload_n X.x X.b d_R_text_142 rfl (lv_at hl 1 rfl) ?_
                    refine g_geti X hW qj4 rfl _ ds_R 14 (by decide) mw_700 rfl (r0 := 15) (p0 := 14) rfl (v := r102 14) (by rw [qr_ne (by omega), qr_at]) d_R_text_143 ?_
                    rw [kr102_14]
                    have eR : rAll ξ len 120 0 0 ν = (nI mi, μ) := by rw [← hG, gRes_0 (kR_0.mp c89)]
                    exact q_pzret X rfl hW ⟨by rw [eR], ⟨r102, κ, kr102_3, kr102_6, by rw [eR, hd, show k = mi by omega, hfo]⟩⟩ d_R_text_146
                  · have c126 : ¬ mi ≤ k := fun z => c126 ((nI_leI (a := mi) (b := k) (by omega) (by omega)).mpr z)
                    refine lv_aload_n X.x X.b d_R_text_129 rfl (lv_at hl 1 rfl) ?_
                    refine lv_iconst (v := nI 5) X.x X.b d_R_text_130 (by decide) ?_
                    refine lv_iload_n X.x X.b d_R_text_131 rfl (lv_at hl 0 rfl) ?_
                    refine lv_imul X.x X.b d_R_text_132 ?_
                    rw [pk_mul]
                    refine q_cvv X (c_R_isToldSo l E (qr (qr (qr S 21 κ) 15 r102) 16 δ) κ δ (by rw [qr_ne (by omega), qr_ne (by omega), qr_at]) (by rw [qr_at]) (by rw [hd]; exact (hal k (by omega)).2) k (by omega) (by rw [hd]; exact (hal k (by omega)).1)) hW (q_recv X hW ds_R rfl) ok_R_isToldSo mw_1124 ⟨by decide, by decide⟩ (As := [.int (nI (5 * k))]) rfl rfl (Nat.le_of_ble_eq_true rfl) (lv := [(1, .int (nI k)), (0, .ref (eA E 70))]) hl ⟨Nat.le_refl 0, Nat.le_refl 0⟩ d_R_text_133 (fun H locs hW => ?_)
                    have hW : qWH E (qr (qr (qr S 21 κ) 15 r102) 16 (apl κ k δ)) s H locs := (by have h := hW; rw [qr_qr] at h; exact h)
                    refine lv_iinc (v := nI (k + 1)) (lv' := [(1, .int (nI (k + 1))), (0, .ref (eA E 70))]) X.x X.b d_R_text_136 hl (k := 0) rfl (by rw [show Int32.ofInt 1 = nI 1 from by decide, nI_add]) (by decide) rfl (fun ls hl => ?_)
                    refine lv_goto (tgt := 121) X.x X.b d_R_text_139 (by decide) ?_
                    exact ih121 (k + 1) (apl κ k δ) (by omega) (by rw [hd]; rfl) (by omega) _ _ _ hW (lv_sub hl [0, 1] rfl)
              exact loop121 (mi - 0 + 1) 0 ν (by omega) rfl (Nat.lt_succ_self _) _ _ _ hW (lv_sub hl [0, 1] rfl)
            · exact absurd (by decide) c109
        · have c55 : (kR (tK ξ len n)) = 3 := (nI_eq (a := (kR (tK ξ len n))) (b := 3) (by omega) (by omega)).mp c55
          have hts := tk_lt (σ := ξ) (len := len) (n := n) (by rw [c55]; decide)
          refine lv_aload_n X.x X.b d_R_text_58 rfl (lv_at hl 0 rfl) ?_
          refine q_getr X hW qj4 rfl _ ds_R 5 (by decide) mw_691 rfl (c1 := 75) rfl d_R_text_59 ?_
          refine lv_aload_n X.x X.b d_R_text_62 rfl (lv_at hl 0 rfl) ?_
          refine g_geti X hW qj4 rfl _ ds_R 7 (by decide) mw_693 rfl (r0 := 15) (p0 := 7) rfl (v := τ 7) (by rw [qr_at]) d_R_text_63 ?_
          rw [kτ_7]
          refine g_ald X hW ds_75 (q_in (by omega) (by decide)) (p0 := tS ξ len n) (q_tn (by omega) (by omega)) (v := ξ (tS ξ len n)) (by rw [qr_ne (by omega), qr_ne (by omega), hξ]) d_R_text_66 ?_
          refine lv_bipush (v := nI 59) X.x X.b d_R_text_67 (by decide) ?_
          refine lv_icmp_ne (tgt := 84) X.x X.b d_R_text_69 (by decide) (fun c69 => ?_) (fun c69 => ?_)
          · refine lv_aload_n X.x X.b d_R_text_84 rfl (lv_at hl 0 rfl) ?_
            refine lv_aload_n X.x X.b d_R_text_85 rfl (lv_at hl 0 rfl) ?_
            refine g_geti X hW qj4 rfl _ ds_R 9 (by decide) mw_695 rfl (r0 := 15) (p0 := 9) rfl (v := τ 9) (by rw [qr_at]) d_R_text_86 ?_
            rw [kτ_9]
            refine lv_if_ne (tgt := 96) X.x X.b d_R_text_89 (by decide) (fun c89 => ?_) (fun c89 => ?_)
            · have c89 : ¬ (kR (tK ξ len n)) = 0 := fun z => c89 ((nI_eq (a := (kR (tK ξ len n))) (b := 0) (by omega) (by omega)).mpr z)
              have z0 : ¬ tK ξ len n = 0 := fun z => c89 (kR_0.mpr z)
              have z3 : ¬ tK ξ len n = 3 := fun z => c69 ((tk_3 (tk_lt c89) c55).mp z)
              rw [← hG, gRes_x z0 z3] at h
              exact absurd h (neg1 (by have q2 := tS_le (σ := ξ) hn; omega))
            · have c89 : (kR (tK ξ len n)) = 0 := (nI_eq (a := (kR (tK ξ len n))) (b := 0) (by omega) (by omega)).mp c89
              refine lv_iconst (v := nI 1) X.x X.b d_R_text_92 (by decide) ?_
              refine lv_goto (tgt := 97) X.x X.b d_R_text_93 (by decide) ?_
              refine q_cvvp X (c_R_must_t l E (qr (qr S 21 κ) 15 τ) τ ξ (by rw [qr_at]) (by rw [qr_ne (by omega), qr_ne (by omega), hξ]) len n kp mi (nT μ) (nW μ) hτ (by omega) hlen h0) hW (q_recv X hW ds_R rfl) ok_R_must mw_1100 ⟨by decide, by decide⟩ (As := [.int (nI 1)]) rfl rfl (Nat.le_of_ble_eq_true rfl) (lv := [(0, .ref (eA E 70))]) hl ⟨Nat.le_refl 0, Nat.le_refl 0⟩ d_R_text_97 (fun H locs Sq97 hP97 hW => ?_)
              obtain ⟨τ97, hτ97, rfl⟩ := hP97
              have hW : qWH E (qr (qr S 21 κ) 15 τ97) s H locs := (by have h := hW; rw [qr_qr] at h; exact h)
              obtain ⟨kτ97_3, kτ97_6, kτ97_7, kτ97_8, kτ97_9, kτ97_10, kτ97_11, kτ97_14, kτ97_15, kτ97_16⟩ := id hτ97
              have bτ97 := tN_n (σ := ξ) (len := len) (n := tN ξ len n) (by omega)
              have dτ97 := tN_le (σ := ξ) (len := len) (n := tN ξ len n) (by omega)
              have eτ97 := kR_le (σ := ξ) (len := len) (n := tN ξ len n)
              refine lv_aload_n X.x X.b d_R_text_100 rfl (lv_at hl 0 rfl) ?_
              refine lv_iconst (v := nI 0) X.x X.b d_R_text_101 (by decide) ?_
              refine g_puti X hW qj4 qp4 qn4 rfl _ ds_R 6 (by decide) mw_692 rfl rfl (r0 := 15) (p0 := 6) rfl rfl rfl (ρ := τ97) (by rw [qr_at]) d_R_text_102 (fun H locs hW => ?_)
              obtain ⟨r102, er102⟩ : ∃ z, z = upd τ97 6 (nI 0) := ⟨_, rfl⟩
              rw [← er102] at hW
              have kr102_10 : r102 10 = tV ξ len (tN ξ len n) := by rw [er102, upN (by omega)]; exact kτ97_10
              have kr102_11 : r102 11 = nI 0 := by rw [er102, upN (by omega)]; exact kτ97_11
              have kr102_14 : r102 14 = nI mi := by rw [er102, upN (by omega)]; exact kτ97_14
              have kr102_15 : r102 15 = nI (nT μ) := by rw [er102, upN (by omega)]; exact kτ97_15
              have kr102_16 : r102 16 = nI (nW μ) := by rw [er102, upN (by omega)]; exact kτ97_16
              have kr102_3 : r102 3 = kp := by rw [er102, upN (by omega)]; exact kτ97_3
              have kr102_6 : r102 6 = nI 0 := by rw [er102, upd_at]
              have kr102_7 : r102 7 = nI (tS ξ len (tN ξ len n)) := by rw [er102, upN (by omega)]; exact kτ97_7
              have kr102_8 : r102 8 = nI (tN ξ len (tN ξ len n)) := by rw [er102, upN (by omega)]; exact kτ97_8
              have kr102_9 : r102 9 = nI (kR (tK ξ len (tN ξ len n))) := by rw [er102, upN (by omega)]; exact kτ97_9
              rw [qr_qr] at hW
              refine lv_aload_n X.x X.b d_R_text_105 rfl (lv_at hl 0 rfl) ?_
              refine g_geti X hW qj4 rfl _ ds_R 11 (by decide) mw_697 rfl (r0 := 15) (p0 := 11) rfl (v := r102 11) (by rw [qr_at]) d_R_text_106 ?_
              rw [kr102_11]
              refine lv_if_eq (tgt := 119) X.x X.b d_R_text_109 (by decide) (fun c109 => ?_) (fun c109 => ?_)
              · have c109 : 0 = 0 := (nI_eq (a := 0) (b := 0) (by omega) (by omega)).mp c109
                refine lv_iconst (v := nI 0) X.x X.b d_R_text_119 (by decide) ?_
                refine lv_istore_n (lv' := [(1, .int (nI 0)), (0, .ref (eA E 70))]) X.x X.b d_R_text_120 rfl hl (by decide) rfl (fun ls hl => ?_)
                have hW : qWH E (qr (qr (qr S 21 κ) 15 r102) 16 ν) s H locs := by rw [qr_selfE (by rw [qr_ne (by omega), qr_ne (by omega), hν])]; exact hW
                have loop121 : ∀ (fu121 : Nat) (k : Nat) (δ : Nat → Int32), k ≤ mi → δ = fo (apl κ) k ν → mi - k < fu121 → ∀ (H : Heap) (locs : List Loc) (ls : Array Slot), qWH E (qr (qr (qr S 21 κ) 15 r102) 16 δ) s H locs → lv_has ls 2 [(1, .int (nI k)), (0, .ref (eA E 70))] → W p l e (qRm 9) s m ([.ref (eA E 70)] : List Value).toArray below meth c H locs 0 0 (MQ below (qQpi E ((rAll ξ len 120 0 0 ν).1) (fun u => ∃ τ κ, τ 3 = kp ∧ τ 6 = nI 0 ∧ u = qr (qr (qr S 21 κ) 15 τ) 16 (rAll ξ len 120 0 0 ν).2) s.heap.size) ([.ref (eA E 70)] : List Value).toArray s 0 0 (qAA E s.heap.size)) (F0 m 121 ls []) := by
                  intro fu121
                  induction fu121 with
                  | zero =>
                    intro k δ hk1 hd hfu
                    exact absurd hfu (Nat.not_lt_zero _)
                  | succ fu121 ih121 =>
                    intro k δ hk1 hd hfu H locs ls hW hl
                    refine lv_iload_n X.x X.b d_R_text_121 rfl (lv_at hl 0 rfl) ?_
                    refine lv_aload_n X.x X.b d_R_text_122 rfl (lv_at hl 1 rfl) ?_
                    refine g_geti X hW qj4 rfl _ ds_R 14 (by decide) mw_700 rfl (r0 := 15) (p0 := 14) rfl (v := r102 14) (by rw [qr_ne (by omega), qr_at]) d_R_text_123 ?_
                    rw [kr102_14]
                    refine lv_icmp_ge (tgt := 142) X.x X.b d_R_text_126 (by decide) (fun c126 => ?_) (fun c126 => ?_)
                    · have c126 : mi ≤ k := (nI_leI (a := mi) (b := k) (by omega) (by omega)).mp c126
                      refine lv_aload_n X.x X.b d_R_text_142 rfl (lv_at hl 1 rfl) ?_
                      refine g_geti X hW qj4 rfl _ ds_R 14 (by decide) mw_700 rfl (r0 := 15) (p0 := 14) rfl (v := r102 14) (by rw [qr_ne (by omega), qr_at]) d_R_text_143 ?_
                      rw [kr102_14]
                      have eR : rAll ξ len 120 0 0 ν = (nI mi, μ) := by rw [← hG, gRes_0 (kR_0.mp c89)]
                      exact q_pzret X rfl hW ⟨by rw [eR], ⟨r102, κ, kr102_3, kr102_6, by rw [eR, hd, show k = mi by omega, hfo]⟩⟩ d_R_text_146
                    · have c126 : ¬ mi ≤ k := fun z => c126 ((nI_leI (a := mi) (b := k) (by omega) (by omega)).mpr z)
                      refine lv_aload_n X.x X.b d_R_text_129 rfl (lv_at hl 1 rfl) ?_
                      refine lv_iconst (v := nI 5) X.x X.b d_R_text_130 (by decide) ?_
                      refine lv_iload_n X.x X.b d_R_text_131 rfl (lv_at hl 0 rfl) ?_
                      refine lv_imul X.x X.b d_R_text_132 ?_
                      rw [pk_mul]
                      refine q_cvv X (c_R_isToldSo l E (qr (qr (qr S 21 κ) 15 r102) 16 δ) κ δ (by rw [qr_ne (by omega), qr_ne (by omega), qr_at]) (by rw [qr_at]) (by rw [hd]; exact (hal k (by omega)).2) k (by omega) (by rw [hd]; exact (hal k (by omega)).1)) hW (q_recv X hW ds_R rfl) ok_R_isToldSo mw_1124 ⟨by decide, by decide⟩ (As := [.int (nI (5 * k))]) rfl rfl (Nat.le_of_ble_eq_true rfl) (lv := [(1, .int (nI k)), (0, .ref (eA E 70))]) hl ⟨Nat.le_refl 0, Nat.le_refl 0⟩ d_R_text_133 (fun H locs hW => ?_)
                      have hW : qWH E (qr (qr (qr S 21 κ) 15 r102) 16 (apl κ k δ)) s H locs := (by have h := hW; rw [qr_qr] at h; exact h)
                      refine lv_iinc (v := nI (k + 1)) (lv' := [(1, .int (nI (k + 1))), (0, .ref (eA E 70))]) X.x X.b d_R_text_136 hl (k := 0) rfl (by rw [show Int32.ofInt 1 = nI 1 from by decide, nI_add]) (by decide) rfl (fun ls hl => ?_)
                      refine lv_goto (tgt := 121) X.x X.b d_R_text_139 (by decide) ?_
                      exact ih121 (k + 1) (apl κ k δ) (by omega) (by rw [hd]; rfl) (by omega) _ _ _ hW (lv_sub hl [0, 1] rfl)
                exact loop121 (mi - 0 + 1) 0 ν (by omega) rfl (Nat.lt_succ_self _) _ _ _ hW (lv_sub hl [0, 1] rfl)
              · exact absurd (by decide) c109
          · have hk3 : tK ξ len n = 3 := (tk_3 hts c55).mpr c69
            have hup := tN_up (σ := ξ) hn (by rw [hk3]; decide)
            have hsl := tS_le (σ := ξ) hn
            have hGr : rAll ξ len (120 - mi) mi (tN ξ len n) μ = rAll ξ len 120 0 0 ν := by rw [← gRes_3 hk3]; exact hG
            refine lv_aload_n X.x X.b d_R_text_72 rfl (lv_at hl 0 rfl) ?_
            refine lv_iconst (v := nI 1) X.x X.b d_R_text_73 (by decide) ?_
            refine q_cvvp X (c_R_must_t l E (qr (qr S 21 κ) 15 τ) τ ξ (by rw [qr_at]) (by rw [qr_ne (by omega), qr_ne (by omega), hξ]) len n kp mi (nT μ) (nW μ) hτ (by omega) hlen h0) hW (q_recv X hW ds_R rfl) ok_R_must mw_1100 ⟨by decide, by decide⟩ (As := [.int (nI 1)]) rfl rfl (Nat.le_of_ble_eq_true rfl) (lv := [(0, .ref (eA E 70))]) hl ⟨Nat.le_refl 0, Nat.le_refl 0⟩ d_R_text_74 (fun H locs Sq74 hP74 hW => ?_)
            obtain ⟨τ74, hτ74, rfl⟩ := hP74
            have hW : qWH E (qr (qr S 21 κ) 15 τ74) s H locs := (by have h := hW; rw [qr_qr] at h; exact h)
            obtain ⟨kτ74_3, kτ74_6, kτ74_7, kτ74_8, kτ74_9, kτ74_10, kτ74_11, kτ74_14, kτ74_15, kτ74_16⟩ := id hτ74
            have bτ74 := tN_n (σ := ξ) (len := len) (n := tN ξ len n) (by omega)
            have dτ74 := tN_le (σ := ξ) (len := len) (n := tN ξ len n) (by omega)
            have eτ74 := kR_le (σ := ξ) (len := len) (n := tN ξ len n)
            refine lv_aload_n X.x X.b d_R_text_77 rfl (lv_at hl 0 rfl) ?_
            refine q_cvvp X (c_R_readItem l E (qr (qr S 21 κ) 15 τ74) τ74 ξ κ μ (by rw [qr_at]) (by rw [qr_ne (by omega), qr_ne (by omega), hξ]) (by rw [qr_ne (by omega), qr_at]) hμ len (tN ξ len n) kp mi hτ74 (by omega) hlen h0 (by omega)) hW (q_recv X hW ds_R rfl) ok_R_readItem mw_1086 ⟨by decide, by decide⟩ (As := []) rfl rfl (Nat.le_of_ble_eq_true rfl) (lv := [(0, .ref (eA E 70))]) hl ⟨Nat.le_refl 0, Nat.le_refl 0⟩ d_R_text_78 (fun H locs Sq78 hP78 hW => ?_)
            obtain ⟨τ78, κ78, ta78, wa78, mq78, hτ78, hg78, rfl⟩ := hP78
            have hW : qWH E (qr (qr S 21 κ78) 15 τ78) s H locs := (by have h := hW; rw [qr_in (by omega), qr_in (by omega)] at h; exact h)
            have zi78 := rItm_le (σ := ξ) (len := len) (ρ := μ) (n := (tN ξ len n)) (by omega)
            have zi78a := zi78.1
            have zi78b := zi78.2.1
            have hb : (rItm ξ len (tN ξ len n) μ).1 = true := Classical.byContradiction fun z => by rw [← hGr, rAll_b (k := mi) (by omega) z] at h; exact neg1 (by have q2 := tS_le (σ := ξ) (len := len) (n := (rItm ξ len (tN ξ len n) μ).2.1) zi78b; omega) h
            rw [if_pos hb] at hτ78
            obtain ⟨rfl, rfl, rfl, hok, hap, hlo⟩ := hg78 hb
            have zj78 := zi78.2.2 hb
            have hGs : gRes ξ len (mi + 1) (rItm ξ len (tN ξ len n) μ).2.1 (rItm ξ len (tN ξ len n) μ).2.2 = rAll ξ len 120 0 0 ν := (rAll_s (k := mi) (by omega) hb).symm.trans hGr
            obtain ⟨kτ78_3, kτ78_6, kτ78_7, kτ78_8, kτ78_9, kτ78_10, kτ78_11, kτ78_14, kτ78_15, kτ78_16⟩ := id hτ78
            have bτ78 := tN_n (σ := ξ) (len := len) (n := (rItm ξ len (tN ξ len n) μ).2.1) (by omega)
            have dτ78 := tN_le (σ := ξ) (len := len) (n := (rItm ξ len (tN ξ len n) μ).2.1) (by omega)
            have eτ78 := kR_le (σ := ξ) (len := len) (n := (rItm ξ len (tN ξ len n) μ).2.1)
            refine lv_goto (tgt := 43) X.x X.b d_R_text_81 (by decide) ?_
            exact ih43 (mi + 1) ((rItm ξ len (tN ξ len n) μ).2.1) ((rItm ξ len (tN ξ len n) μ).2.2) κ78 τ78 hτ78 (by omega) (by omega) (by omega) (rItm_wf hμ) (by rw [fo_succ, fo_apl mi hlo, hfo, hap]) (fun q hq => by rcases Nat.lt_succ_iff_lt_or_eq.mp hq with z | z; rw [fo_apl q (fun r hr => hlo r (by omega))]; exact ⟨okI_c (fun r hr => (hlo r (by omega)).symm) (hal q z).1, (hal q z).2⟩; rw [z, fo_apl mi hlo, hfo]; exact ⟨hok, hμ⟩) hGs (by omega) _ _ _ hW (lv_sub hl [0] rfl)
  exact loop43 (len - ((rItm ξ len 0 ν).2.1) + 1) (0 + 1) ((rItm ξ len 0 ν).2.1) ((rItm ξ len 0 ν).2.2) κ40 τ40 hτ40 (by omega) (by omega) (by omega) (rItm_wf hwf) (by rw [fo_succ]; exact hap) (fun q hq => by have z : q = 0 := (by omega); rw [z]; exact ⟨hok, hwf⟩) hGs (Nat.lt_succ_self _) _ _ _ hW (lv_sub hl [0] rfl)
set_option maxHeartbeats 1000000 in
set_option maxRecDepth 20000 in
theorem c_R_text_n (l : Launch) (E : QE) (S : QM) (υ ξ ι ν : Nat → Int32) (hυ : S 15 = υ) (hξ : S 20 = ξ) (hι : S 21 = ι) (hν : S 16 = ν) (hwf : WF ν) (len : Nat) (kp : Int32) (kυ_3 : υ 3 = kp) (kυ_6 : υ 6 = nI len) (hlen : len ≤ 120) (h0 : ∀ i, i < len → 0 ≤ ξ i) (h : ¬ nI 0 < (rAll ξ len 120 0 0 ν).1) : qCPi E l y_R_text prog_7_method_94_code 2 .int 9 [.ref (eA E 70)] S ((rAll ξ len 120 0 0 ν).1) (fun u => ∃ τ κ, τ 3 = kp ∧ τ 6 = nI 0 ∧ u = qr (qr S 21 κ) 15 τ) := by
  refine qCPi_of (by decide) (Nat.le_of_ble_eq_true rfl) (fun p e s m below meth c ls X hW hl => ?_)
  have hl : lv_has ls 2 [(0, .ref (eA E 70))] := hl
  have hW : qWH E (qr (qr S 21 ι) 15 υ) s s.heap [] := by rw [show qr (qr S 21 ι) 15 υ = S from by rw [← hι, qr_self, ← hυ, qr_self]]; exact hW
  have htl := hwf.tl
  have hwl := hwf.wl
  have hdl := hwf.dl
  refine lv_aload_n X.x X.b d_R_text_0 rfl (lv_at hl 0 rfl) ?_
  refine lv_iconst (v := nI 0) X.x X.b d_R_text_1 (by decide) ?_
  refine g_puti X hW qj4 qp4 qn4 rfl _ ds_R 8 (by decide) mw_694 rfl rfl (r0 := 15) (p0 := 8) rfl rfl rfl (ρ := υ) (by rw [qr_at]) d_R_text_2 (fun H locs hW => ?_)
  obtain ⟨r2, er2⟩ : ∃ z, z = upd υ 8 (nI 0) := ⟨_, rfl⟩
  rw [← er2] at hW
  have kr2_3 : r2 3 = kp := by rw [er2, upN (by omega)]; exact kυ_3
  have kr2_6 : r2 6 = nI len := by rw [er2, upN (by omega)]; exact kυ_6
  have kr2_8 : r2 8 = nI 0 := by rw [er2, upd_at]
  rw [qr_qr] at hW
  refine lv_aload_n X.x X.b d_R_text_5 rfl (lv_at hl 0 rfl) ?_
  refine lv_iconst (v := nI 0) X.x X.b d_R_text_6 (by decide) ?_
  refine g_puti X hW qj4 qp4 qn4 rfl _ ds_R 11 (by decide) mw_697 rfl rfl (r0 := 15) (p0 := 11) rfl (by decide) (by decide) (ρ := r2) (by rw [qr_at]) d_R_text_7 (fun H locs hW => ?_)
  obtain ⟨r7, er7⟩ : ∃ z, z = upd r2 11 (nI 0) := ⟨_, rfl⟩
  rw [← er7] at hW
  have kr7_3 : r7 3 = kp := by rw [er7, upN (by omega)]; exact kr2_3
  have kr7_6 : r7 6 = nI len := by rw [er7, upN (by omega)]; exact kr2_6
  have kr7_8 : r7 8 = nI 0 := by rw [er7, upN (by omega)]; exact kr2_8
  have kr7_11 : r7 11 = nI 0 := by rw [er7, upd_at]
  rw [qr_qr] at hW
  refine lv_aload_n X.x X.b d_R_text_10 rfl (lv_at hl 0 rfl) ?_
  refine lv_iconst (v := nI 0) X.x X.b d_R_text_11 (by decide) ?_
  refine g_puti X hW qj4 qp4 qn4 rfl _ ds_R 14 (by decide) mw_700 rfl rfl (r0 := 15) (p0 := 14) rfl rfl rfl (ρ := r7) (by rw [qr_at]) d_R_text_12 (fun H locs hW => ?_)
  obtain ⟨r12, er12⟩ : ∃ z, z = upd r7 14 (nI 0) := ⟨_, rfl⟩
  rw [← er12] at hW
  have kr12_11 : r12 11 = nI 0 := by rw [er12, upN (by omega)]; exact kr7_11
  have kr12_3 : r12 3 = kp := by rw [er12, upN (by omega)]; exact kr7_3
  have kr12_6 : r12 6 = nI len := by rw [er12, upN (by omega)]; exact kr7_6
  have kr12_8 : r12 8 = nI 0 := by rw [er12, upN (by omega)]; exact kr7_8
  have kr12_14 : r12 14 = nI 0 := by rw [er12, upd_at]
  rw [qr_qr] at hW
  refine lv_aload_n X.x X.b d_R_text_15 rfl (lv_at hl 0 rfl) ?_
  refine lv_aload_n X.x X.b d_R_text_16 rfl (lv_at hl 0 rfl) ?_
  refine q_getr X hW qj4 rfl _ ds_R 0 (by decide) mw_686 rfl (c1 := 71) rfl d_R_text_17 ?_
  refine lv_iconst (v := nI 1) X.x X.b d_R_text_20 (by decide) ?_
  refine g_ald X hW ds_71 (q_in (by omega) (by decide)) (p0 := 1) (q_tn (by omega) (by omega)) (v := ν 1) (by rw [qr_ne (by omega), qr_ne (by omega), hν]) d_R_text_21 ?_
  rw [hwf.t]
  refine g_puti X hW qj4 qp4 qn4 rfl _ ds_R 15 (by decide) mw_701 rfl rfl (r0 := 15) (p0 := 15) rfl rfl rfl (ρ := r12) (by rw [qr_at]) d_R_text_22 (fun H locs hW => ?_)
  obtain ⟨r22, er22⟩ : ∃ z, z = upd r12 15 (nI (nT ν)) := ⟨_, rfl⟩
  rw [← er22] at hW
  have kr22_11 : r22 11 = nI 0 := by rw [er22, upN (by omega)]; exact kr12_11
  have kr22_14 : r22 14 = nI 0 := by rw [er22, upN (by omega)]; exact kr12_14
  have kr22_3 : r22 3 = kp := by rw [er22, upN (by omega)]; exact kr12_3
  have kr22_6 : r22 6 = nI len := by rw [er22, upN (by omega)]; exact kr12_6
  have kr22_8 : r22 8 = nI 0 := by rw [er22, upN (by omega)]; exact kr12_8
  have kr22_15 : r22 15 = nI (nT ν) := by rw [er22, upd_at]
  rw [qr_qr] at hW
  refine lv_aload_n X.x X.b d_R_text_25 rfl (lv_at hl 0 rfl) ?_
  refine lv_aload_n X.x X.b d_R_text_26 rfl (lv_at hl 0 rfl) ?_
  refine q_getr X hW qj4 rfl _ ds_R 0 (by decide) mw_686 rfl (c1 := 71) rfl d_R_text_27 ?_
  refine lv_iconst (v := nI 3) X.x X.b d_R_text_30 (by decide) ?_
  refine g_ald X hW ds_71 (q_in (by omega) (by decide)) (p0 := 3) (q_tn (by omega) (by omega)) (v := ν 3) (by rw [qr_ne (by omega), qr_ne (by omega), hν]) d_R_text_31 ?_
  rw [hwf.w]
  refine g_puti X hW qj4 qp4 qn4 rfl _ ds_R 16 (by decide) mw_702 rfl rfl (r0 := 15) (p0 := 16) rfl rfl rfl (ρ := r22) (by rw [qr_at]) d_R_text_32 (fun H locs hW => ?_)
  obtain ⟨r32, er32⟩ : ∃ z, z = upd r22 16 (nI (nW ν)) := ⟨_, rfl⟩
  rw [← er32] at hW
  have kr32_11 : r32 11 = nI 0 := by rw [er32, upN (by omega)]; exact kr22_11
  have kr32_14 : r32 14 = nI 0 := by rw [er32, upN (by omega)]; exact kr22_14
  have kr32_15 : r32 15 = nI (nT ν) := by rw [er32, upN (by omega)]; exact kr22_15
  have kr32_3 : r32 3 = kp := by rw [er32, upN (by omega)]; exact kr22_3
  have kr32_6 : r32 6 = nI len := by rw [er32, upN (by omega)]; exact kr22_6
  have kr32_8 : r32 8 = nI 0 := by rw [er32, upN (by omega)]; exact kr22_8
  have kr32_16 : r32 16 = nI (nW ν) := by rw [er32, upd_at]
  rw [qr_qr] at hW
  refine lv_aload_n X.x X.b d_R_text_35 rfl (lv_at hl 0 rfl) ?_
  refine q_cvvp X (c_R_token l E (qr (qr S 21 ι) 15 r32) r32 ξ (by rw [qr_at]) (by rw [qr_ne (by omega), qr_ne (by omega), hξ]) len 0 kp (nI 0) 0 (nT ν) (nW ν) kr32_3 kr32_6 kr32_8 kr32_11 kr32_14 kr32_15 kr32_16 (by omega) hlen h0) hW (q_recv X hW ds_R rfl) ok_R_token mw_1078 ⟨by decide, by decide⟩ (As := []) rfl rfl (Nat.le_of_ble_eq_true rfl) (lv := [(0, .ref (eA E 70))]) hl ⟨Nat.le_refl 0, Nat.le_refl 0⟩ d_R_text_36 (fun H locs Sq36 hP36 hW => ?_)
  obtain ⟨τ36, hτ36, rfl⟩ := hP36
  have hW : qWH E (qr (qr S 21 ι) 15 τ36) s H locs := (by have h := hW; rw [qr_qr] at h; exact h)
  obtain ⟨kτ36_3, kτ36_6, kτ36_7, kτ36_8, kτ36_9, kτ36_10, kτ36_11, kτ36_14, kτ36_15, kτ36_16⟩ := id hτ36
  have bτ36 := tN_n (σ := ξ) (len := len) (n := 0) (by omega)
  have dτ36 := tN_le (σ := ξ) (len := len) (n := 0) (by omega)
  have eτ36 := kR_le (σ := ξ) (len := len) (n := 0)
  have hGr : rAll ξ len (120 - 0) 0 0 ν = rAll ξ len 120 0 0 ν := rfl
  refine lv_aload_n X.x X.b d_R_text_39 rfl (lv_at hl 0 rfl) ?_
  refine q_cvvp X (c_R_readItem l E (qr (qr S 21 ι) 15 τ36) τ36 ξ ι ν (by rw [qr_at]) (by rw [qr_ne (by omega), qr_ne (by omega), hξ]) (by rw [qr_ne (by omega), qr_at]) hwf len 0 kp 0 hτ36 (by omega) hlen h0 (by omega)) hW (q_recv X hW ds_R rfl) ok_R_readItem mw_1086 ⟨by decide, by decide⟩ (As := []) rfl rfl (Nat.le_of_ble_eq_true rfl) (lv := [(0, .ref (eA E 70))]) hl ⟨Nat.le_refl 0, Nat.le_refl 0⟩ d_R_text_40 (fun H locs Sq40 hP40 hW => ?_)
  obtain ⟨τ40, κ40, ta40, wa40, mq40, hτ40, hg40, rfl⟩ := hP40
  have hW : qWH E (qr (qr S 21 κ40) 15 τ40) s H locs := (by have h := hW; rw [qr_in (by omega), qr_in (by omega)] at h; exact h)
  have zi40 := rItm_le (σ := ξ) (len := len) (ρ := ν) (n := 0) (by omega)
  have zi40a := zi40.1
  have zi40b := zi40.2.1
  obtain ⟨kτ40_3, kτ40_6, kτ40_7, kτ40_8, kτ40_9, kτ40_10, kτ40_11, kτ40_14, kτ40_15, kτ40_16⟩ := id hτ40
  have bτ40 := tN_n (σ := ξ) (len := len) (n := (rItm ξ len 0 ν).2.1) (by omega)
  have dτ40 := tN_le (σ := ξ) (len := len) (n := (rItm ξ len 0 ν).2.1) (by omega)
  have eτ40 := kR_le (σ := ξ) (len := len) (n := (rItm ξ len 0 ν).2.1)
  have loop43 : ∀ (fu43 : Nat) (b : Bool) (mi : Nat) (ta : Nat) (wa : Nat) (n : Nat) (μ : Nat → Int32) (κ : Nat → Int32) (τ : Nat → Int32), stK ξ len n kp (if b = true then nI 0 else nI 1) mi ta wa τ → n ≤ len → (¬ b = true → (rAll ξ len 120 0 0 ν).1 = (-1) - nI (tS ξ len n)) → (b = true → 1 ≤ mi ∧ 2 * mi ≤ n + 1 ∧ WF μ ∧ ta = nT μ ∧ wa = nW μ ∧ gRes ξ len mi n μ = rAll ξ len 120 0 0 ν) → len - n < fu43 → ∀ (H : Heap) (locs : List Loc) (ls : Array Slot), qWH E (qr (qr S 21 κ) 15 τ) s H locs → lv_has ls 2 [(0, .ref (eA E 70))] → W p l e (qRm 9) s m ([.ref (eA E 70)] : List Value).toArray below meth c H locs 0 0 (MQ below (qQpi E ((rAll ξ len 120 0 0 ν).1) (fun u => ∃ τ κ, τ 3 = kp ∧ τ 6 = nI 0 ∧ u = qr (qr S 21 κ) 15 τ) s.heap.size) ([.ref (eA E 70)] : List Value).toArray s 0 0 (qAA E s.heap.size)) (F0 m 43 ls []) := by
    intro fu43
    induction fu43 with
    | zero =>
      intro b mi ta wa n μ κ τ hτ hn hb0 hb1 hfu
      exact absurd hfu (Nat.not_lt_zero _)
    | succ fu43 ih43 =>
      intro b mi ta wa n μ κ τ hτ hn hb0 hb1 hfu H locs ls hW hl
      have bτ := tN_n (σ := ξ) (len := len) (n := n) (by omega)
      have dτ := tN_le (σ := ξ) (len := len) (n := n) (by omega)
      have eτ := kR_le (σ := ξ) (len := len) (n := n)
      refine lv_aload_n X.x X.b d_R_text_43 rfl (lv_at hl 0 rfl) ?_
      by_cases hs44 : b = true
      · obtain ⟨g1, g2, g3, rfl, rfl, g6⟩ := hb1 hs44
        rw [if_pos hs44] at hτ
        obtain ⟨kτ_3, kτ_6, kτ_7, kτ_8, kτ_9, kτ_10, kτ_11, kτ_14, kτ_15, kτ_16⟩ := id hτ
        have bτ := tN_n (σ := ξ) (len := len) (n := n) (by omega)
        have dτ := tN_le (σ := ξ) (len := len) (n := n) (by omega)
        have eτ := kR_le (σ := ξ) (len := len) (n := n)
        refine g_geti X hW qj4 rfl _ ds_R 11 (by decide) mw_697 rfl (r0 := 15) (p0 := 11) rfl (v := τ 11) (by rw [qr_at]) d_R_text_44 ?_
        rw [kτ_11]
        refine lv_if_ne (tgt := 84) X.x X.b d_R_text_47 (by decide) (fun c47 => ?_) (fun c47 => ?_)
        · exact absurd (by decide) c47
        · have c47 : 0 = 0 := (nI_eq (a := 0) (b := 0) (by omega) (by omega)).mp c47
          refine lv_aload_n X.x X.b d_R_text_50 rfl (lv_at hl 0 rfl) ?_
          refine g_geti X hW qj4 rfl _ ds_R 9 (by decide) mw_695 rfl (r0 := 15) (p0 := 9) rfl (v := τ 9) (by rw [qr_at]) d_R_text_51 ?_
          rw [kτ_9]
          refine lv_iconst (v := nI 3) X.x X.b d_R_text_54 (by decide) ?_
          refine lv_icmp_ne (tgt := 84) X.x X.b d_R_text_55 (by decide) (fun c55 => ?_) (fun c55 => ?_)
          · have c55 : ¬ (kR (tK ξ len n)) = 3 := fun z => c55 ((nI_eq (a := (kR (tK ξ len n))) (b := 3) (by omega) (by omega)).mpr z)
            refine lv_aload_n X.x X.b d_R_text_84 rfl (lv_at hl 0 rfl) ?_
            refine lv_aload_n X.x X.b d_R_text_85 rfl (lv_at hl 0 rfl) ?_
            refine g_geti X hW qj4 rfl _ ds_R 9 (by decide) mw_695 rfl (r0 := 15) (p0 := 9) rfl (v := τ 9) (by rw [qr_at]) d_R_text_86 ?_
            rw [kτ_9]
            refine lv_if_ne (tgt := 96) X.x X.b d_R_text_89 (by decide) (fun c89 => ?_) (fun c89 => ?_)
            · have c89 : ¬ (kR (tK ξ len n)) = 0 := fun z => c89 ((nI_eq (a := (kR (tK ξ len n))) (b := 0) (by omega) (by omega)).mpr z)
              have z0 : ¬ tK ξ len n = 0 := fun z => c89 (kR_0.mpr z)
              have z3 : ¬ tK ξ len n = 3 := fun z => c55 (by rw [z]; rfl)
              refine lv_iconst (v := nI 0) X.x X.b d_R_text_96 (by decide) ?_
              refine q_cvvp X (c_R_must_f l E (qr (qr S 21 κ) 15 τ) τ ξ (by rw [qr_at]) (by rw [qr_ne (by omega), qr_ne (by omega), hξ]) len n kp mi (nT μ) (nW μ) hτ (by omega) hlen h0) hW (q_recv X hW ds_R rfl) ok_R_must mw_1100 ⟨by decide, by decide⟩ (As := [.int (nI 0)]) rfl rfl (Nat.le_of_ble_eq_true rfl) (lv := [(0, .ref (eA E 70))]) hl ⟨Nat.le_refl 0, Nat.le_refl 0⟩ d_R_text_97 (fun H locs Sq97 hP97 hW => ?_)
              obtain ⟨τ97, hτ97, rfl⟩ := hP97
              have hW : qWH E (qr (qr S 21 κ) 15 τ97) s H locs := (by have h := hW; rw [qr_qr] at h; exact h)
              obtain ⟨kτ97_3, kτ97_6, kτ97_7, kτ97_8, kτ97_9, kτ97_10, kτ97_11, kτ97_14, kτ97_15, kτ97_16⟩ := id hτ97
              have bτ97 := tN_n (σ := ξ) (len := len) (n := n) (by omega)
              have dτ97 := tN_le (σ := ξ) (len := len) (n := n) (by omega)
              have eτ97 := kR_le (σ := ξ) (len := len) (n := n)
              refine lv_aload_n X.x X.b d_R_text_100 rfl (lv_at hl 0 rfl) ?_
              refine lv_iconst (v := nI 0) X.x X.b d_R_text_101 (by decide) ?_
              refine g_puti X hW qj4 qp4 qn4 rfl _ ds_R 6 (by decide) mw_692 rfl rfl (r0 := 15) (p0 := 6) rfl rfl rfl (ρ := τ97) (by rw [qr_at]) d_R_text_102 (fun H locs hW => ?_)
              obtain ⟨r102, er102⟩ : ∃ z, z = upd τ97 6 (nI 0) := ⟨_, rfl⟩
              rw [← er102] at hW
              have kr102_10 : r102 10 = tV ξ len n := by rw [er102, upN (by omega)]; exact kτ97_10
              have kr102_11 : r102 11 = nI 1 := by rw [er102, upN (by omega)]; exact kτ97_11
              have kr102_14 : r102 14 = nI mi := by rw [er102, upN (by omega)]; exact kτ97_14
              have kr102_15 : r102 15 = nI (nT μ) := by rw [er102, upN (by omega)]; exact kτ97_15
              have kr102_16 : r102 16 = nI (nW μ) := by rw [er102, upN (by omega)]; exact kτ97_16
              have kr102_3 : r102 3 = kp := by rw [er102, upN (by omega)]; exact kτ97_3
              have kr102_6 : r102 6 = nI 0 := by rw [er102, upd_at]
              have kr102_7 : r102 7 = nI (tS ξ len n) := by rw [er102, upN (by omega)]; exact kτ97_7
              have kr102_8 : r102 8 = nI (tN ξ len n) := by rw [er102, upN (by omega)]; exact kτ97_8
              have kr102_9 : r102 9 = nI (kR (tK ξ len n)) := by rw [er102, upN (by omega)]; exact kτ97_9
              rw [qr_qr] at hW
              refine lv_aload_n X.x X.b d_R_text_105 rfl (lv_at hl 0 rfl) ?_
              refine g_geti X hW qj4 rfl _ ds_R 11 (by decide) mw_697 rfl (r0 := 15) (p0 := 11) rfl (v := r102 11) (by rw [qr_at]) d_R_text_106 ?_
              rw [kr102_11]
              refine lv_if_eq (tgt := 119) X.x X.b d_R_text_109 (by decide) (fun c109 => ?_) (fun c109 => ?_)
              · exact absurd c109 (by decide)
              · have c109 : ¬ 1 = 0 := fun z => c109 ((nI_eq (a := 1) (b := 0) (by omega) (by omega)).mpr z)
                refine lv_iconst (v := (-1)) X.x X.b d_R_text_112 (by decide) ?_
                refine lv_aload_n X.x X.b d_R_text_113 rfl (lv_at hl 0 rfl) ?_
                refine g_geti X hW qj4 rfl _ ds_R 7 (by decide) mw_693 rfl (r0 := 15) (p0 := 7) rfl (v := r102 7) (by rw [qr_at]) d_R_text_114 ?_
                rw [kr102_7]
                refine lv_isub X.x X.b d_R_text_117 ?_
                have eR : (rAll ξ len 120 0 0 ν).1 = (-1) - nI (tS ξ len n) := by rw [← g6, gRes_x z0 z3]
                exact q_pzret X rfl hW ⟨eR.symm, ⟨r102, κ, kr102_3, kr102_6, rfl⟩⟩ d_R_text_118
            · have c89 : (kR (tK ξ len n)) = 0 := (nI_eq (a := (kR (tK ξ len n))) (b := 0) (by omega) (by omega)).mp c89
              exact absurd (by rw [← g6, gRes_0 (kR_0.mp c89)]; exact pos1 (by omega) g1) h
          · have c55 : (kR (tK ξ len n)) = 3 := (nI_eq (a := (kR (tK ξ len n))) (b := 3) (by omega) (by omega)).mp c55
            have hts := tk_lt (σ := ξ) (len := len) (n := n) (by rw [c55]; decide)
            refine lv_aload_n X.x X.b d_R_text_58 rfl (lv_at hl 0 rfl) ?_
            refine q_getr X hW qj4 rfl _ ds_R 5 (by decide) mw_691 rfl (c1 := 75) rfl d_R_text_59 ?_
            refine lv_aload_n X.x X.b d_R_text_62 rfl (lv_at hl 0 rfl) ?_
            refine g_geti X hW qj4 rfl _ ds_R 7 (by decide) mw_693 rfl (r0 := 15) (p0 := 7) rfl (v := τ 7) (by rw [qr_at]) d_R_text_63 ?_
            rw [kτ_7]
            refine g_ald X hW ds_75 (q_in (by omega) (by decide)) (p0 := tS ξ len n) (q_tn (by omega) (by omega)) (v := ξ (tS ξ len n)) (by rw [qr_ne (by omega), qr_ne (by omega), hξ]) d_R_text_66 ?_
            refine lv_bipush (v := nI 59) X.x X.b d_R_text_67 (by decide) ?_
            refine lv_icmp_ne (tgt := 84) X.x X.b d_R_text_69 (by decide) (fun c69 => ?_) (fun c69 => ?_)
            · refine lv_aload_n X.x X.b d_R_text_84 rfl (lv_at hl 0 rfl) ?_
              refine lv_aload_n X.x X.b d_R_text_85 rfl (lv_at hl 0 rfl) ?_
              refine g_geti X hW qj4 rfl _ ds_R 9 (by decide) mw_695 rfl (r0 := 15) (p0 := 9) rfl (v := τ 9) (by rw [qr_at]) d_R_text_86 ?_
              rw [kτ_9]
              refine lv_if_ne (tgt := 96) X.x X.b d_R_text_89 (by decide) (fun c89 => ?_) (fun c89 => ?_)
              · have c89 : ¬ (kR (tK ξ len n)) = 0 := fun z => c89 ((nI_eq (a := (kR (tK ξ len n))) (b := 0) (by omega) (by omega)).mpr z)
                have z0 : ¬ tK ξ len n = 0 := fun z => c89 (kR_0.mpr z)
                have z3 : ¬ tK ξ len n = 3 := fun z => c69 ((tk_3 (tk_lt c89) c55).mp z)
                refine lv_iconst (v := nI 0) X.x X.b d_R_text_96 (by decide) ?_
                refine q_cvvp X (c_R_must_f l E (qr (qr S 21 κ) 15 τ) τ ξ (by rw [qr_at]) (by rw [qr_ne (by omega), qr_ne (by omega), hξ]) len n kp mi (nT μ) (nW μ) hτ (by omega) hlen h0) hW (q_recv X hW ds_R rfl) ok_R_must mw_1100 ⟨by decide, by decide⟩ (As := [.int (nI 0)]) rfl rfl (Nat.le_of_ble_eq_true rfl) (lv := [(0, .ref (eA E 70))]) hl ⟨Nat.le_refl 0, Nat.le_refl 0⟩ d_R_text_97 (fun H locs Sq97 hP97 hW => ?_)
                obtain ⟨τ97, hτ97, rfl⟩ := hP97
                have hW : qWH E (qr (qr S 21 κ) 15 τ97) s H locs := (by have h := hW; rw [qr_qr] at h; exact h)
                obtain ⟨kτ97_3, kτ97_6, kτ97_7, kτ97_8, kτ97_9, kτ97_10, kτ97_11, kτ97_14, kτ97_15, kτ97_16⟩ := id hτ97
                have bτ97 := tN_n (σ := ξ) (len := len) (n := n) (by omega)
                have dτ97 := tN_le (σ := ξ) (len := len) (n := n) (by omega)
                have eτ97 := kR_le (σ := ξ) (len := len) (n := n)
                refine lv_aload_n X.x X.b d_R_text_100 rfl (lv_at hl 0 rfl) ?_
                refine lv_iconst (v := nI 0) X.x X.b d_R_text_101 (by decide) ?_
                refine g_puti X hW qj4 qp4 qn4 rfl _ ds_R 6 (by decide) mw_692 rfl rfl (r0 := 15) (p0 := 6) rfl rfl rfl (ρ := τ97) (by rw [qr_at]) d_R_text_102 (fun H locs hW => ?_)
                obtain ⟨r102, er102⟩ : ∃ z, z = upd τ97 6 (nI 0) := ⟨_, rfl⟩
                rw [← er102] at hW
                have kr102_10 : r102 10 = tV ξ len n := by rw [er102, upN (by omega)]; exact kτ97_10
                have kr102_11 : r102 11 = nI 1 := by rw [er102, upN (by omega)]; exact kτ97_11
                have kr102_14 : r102 14 = nI mi := by rw [er102, upN (by omega)]; exact kτ97_14
                have kr102_15 : r102 15 = nI (nT μ) := by rw [er102, upN (by omega)]; exact kτ97_15
                have kr102_16 : r102 16 = nI (nW μ) := by rw [er102, upN (by omega)]; exact kτ97_16
                have kr102_3 : r102 3 = kp := by rw [er102, upN (by omega)]; exact kτ97_3
                have kr102_6 : r102 6 = nI 0 := by rw [er102, upd_at]
                have kr102_7 : r102 7 = nI (tS ξ len n) := by rw [er102, upN (by omega)]; exact kτ97_7
                have kr102_8 : r102 8 = nI (tN ξ len n) := by rw [er102, upN (by omega)]; exact kτ97_8
                have kr102_9 : r102 9 = nI (kR (tK ξ len n)) := by rw [er102, upN (by omega)]; exact kτ97_9
                rw [qr_qr] at hW
                refine lv_aload_n X.x X.b d_R_text_105 rfl (lv_at hl 0 rfl) ?_
                refine g_geti X hW qj4 rfl _ ds_R 11 (by decide) mw_697 rfl (r0 := 15) (p0 := 11) rfl (v := r102 11) (by rw [qr_at]) d_R_text_106 ?_
                rw [kr102_11]
                refine lv_if_eq (tgt := 119) X.x X.b d_R_text_109 (by decide) (fun c109 => ?_) (fun c109 => ?_)
                · exact absurd c109 (by decide)
                · have c109 : ¬ 1 = 0 := fun z => c109 ((nI_eq (a := 1) (b := 0) (by omega) (by omega)).mpr z)
                  refine lv_iconst (v := (-1)) X.x X.b d_R_text_112 (by decide) ?_
                  refine lv_aload_n X.x X.b d_R_text_113 rfl (lv_at hl 0 rfl) ?_
                  refine g_geti X hW qj4 rfl _ ds_R 7 (by decide) mw_693 rfl (r0 := 15) (p0 := 7) rfl (v := r102 7) (by rw [qr_at]) d_R_text_114 ?_
                  rw [kr102_7]
                  refine lv_isub X.x X.b d_R_text_117 ?_
                  have eR : (rAll ξ len 120 0 0 ν).1 = (-1) - nI (tS ξ len n) := by rw [← g6, gRes_x z0 z3]
                  exact q_pzret X rfl hW ⟨eR.symm, ⟨r102, κ, kr102_3, kr102_6, rfl⟩⟩ d_R_text_118
              · have c89 : (kR (tK ξ len n)) = 0 := (nI_eq (a := (kR (tK ξ len n))) (b := 0) (by omega) (by omega)).mp c89
                exact absurd (by rw [← g6, gRes_0 (kR_0.mp c89)]; exact pos1 (by omega) g1) h
            · have hk3 : tK ξ len n = 3 := (tk_3 hts c55).mpr c69
              have hup := tN_up (σ := ξ) hn (by rw [hk3]; decide)
              have hsl := tS_le (σ := ξ) hn
              have hGr : rAll ξ len (120 - mi) mi (tN ξ len n) μ = rAll ξ len 120 0 0 ν := by rw [← gRes_3 hk3]; exact g6
              refine lv_aload_n X.x X.b d_R_text_72 rfl (lv_at hl 0 rfl) ?_
              refine lv_iconst (v := nI 1) X.x X.b d_R_text_73 (by decide) ?_
              refine q_cvvp X (c_R_must_t l E (qr (qr S 21 κ) 15 τ) τ ξ (by rw [qr_at]) (by rw [qr_ne (by omega), qr_ne (by omega), hξ]) len n kp mi (nT μ) (nW μ) hτ (by omega) hlen h0) hW (q_recv X hW ds_R rfl) ok_R_must mw_1100 ⟨by decide, by decide⟩ (As := [.int (nI 1)]) rfl rfl (Nat.le_of_ble_eq_true rfl) (lv := [(0, .ref (eA E 70))]) hl ⟨Nat.le_refl 0, Nat.le_refl 0⟩ d_R_text_74 (fun H locs Sq74 hP74 hW => ?_)
              obtain ⟨τ74, hτ74, rfl⟩ := hP74
              have hW : qWH E (qr (qr S 21 κ) 15 τ74) s H locs := (by have h := hW; rw [qr_qr] at h; exact h)
              obtain ⟨kτ74_3, kτ74_6, kτ74_7, kτ74_8, kτ74_9, kτ74_10, kτ74_11, kτ74_14, kτ74_15, kτ74_16⟩ := id hτ74
              have bτ74 := tN_n (σ := ξ) (len := len) (n := tN ξ len n) (by omega)
              have dτ74 := tN_le (σ := ξ) (len := len) (n := tN ξ len n) (by omega)
              have eτ74 := kR_le (σ := ξ) (len := len) (n := tN ξ len n)
              refine lv_aload_n X.x X.b d_R_text_77 rfl (lv_at hl 0 rfl) ?_
              refine q_cvvp X (c_R_readItem l E (qr (qr S 21 κ) 15 τ74) τ74 ξ κ μ (by rw [qr_at]) (by rw [qr_ne (by omega), qr_ne (by omega), hξ]) (by rw [qr_ne (by omega), qr_at]) g3 len (tN ξ len n) kp mi hτ74 (by omega) hlen h0 (by omega)) hW (q_recv X hW ds_R rfl) ok_R_readItem mw_1086 ⟨by decide, by decide⟩ (As := []) rfl rfl (Nat.le_of_ble_eq_true rfl) (lv := [(0, .ref (eA E 70))]) hl ⟨Nat.le_refl 0, Nat.le_refl 0⟩ d_R_text_78 (fun H locs Sq78 hP78 hW => ?_)
              obtain ⟨τ78, κ78, ta78, wa78, mq78, hτ78, hg78, rfl⟩ := hP78
              have hW : qWH E (qr (qr S 21 κ78) 15 τ78) s H locs := (by have h := hW; rw [qr_in (by omega), qr_in (by omega)] at h; exact h)
              have zi78 := rItm_le (σ := ξ) (len := len) (ρ := μ) (n := (tN ξ len n)) (by omega)
              have zi78a := zi78.1
              have zi78b := zi78.2.1
              obtain ⟨kτ78_3, kτ78_6, kτ78_7, kτ78_8, kτ78_9, kτ78_10, kτ78_11, kτ78_14, kτ78_15, kτ78_16⟩ := id hτ78
              have bτ78 := tN_n (σ := ξ) (len := len) (n := (rItm ξ len (tN ξ len n) μ).2.1) (by omega)
              have dτ78 := tN_le (σ := ξ) (len := len) (n := (rItm ξ len (tN ξ len n) μ).2.1) (by omega)
              have eτ78 := kR_le (σ := ξ) (len := len) (n := (rItm ξ len (tN ξ len n) μ).2.1)
              refine lv_goto (tgt := 43) X.x X.b d_R_text_81 (by decide) ?_
              exact ih43 ((rItm ξ len (tN ξ len n) μ).1) mq78 ta78 wa78 ((rItm ξ len (tN ξ len n) μ).2.1) ((rItm ξ len (tN ξ len n) μ).2.2) κ78 τ78 hτ78 (by omega) (fun z => by rw [← hGr, rAll_b (k := mi) (by omega) z]) (fun z => by obtain ⟨e1, e2, e3, -, -, -⟩ := hg78 z; have zj := zi78.2.2 z; exact ⟨by omega, by omega, rItm_wf g3, e2, e3, by rw [e1]; exact (rAll_s (k := mi) (by omega) z).symm.trans hGr⟩) (by omega) _ _ _ hW (lv_sub hl [0] rfl)
      · rw [if_neg hs44] at hτ
        obtain ⟨kτ_3, kτ_6, kτ_7, kτ_8, kτ_9, kτ_10, kτ_11, kτ_14, kτ_15, kτ_16⟩ := id hτ
        have bτ := tN_n (σ := ξ) (len := len) (n := n) (by omega)
        have dτ := tN_le (σ := ξ) (len := len) (n := n) (by omega)
        have eτ := kR_le (σ := ξ) (len := len) (n := n)
        refine g_geti X hW qj4 rfl _ ds_R 11 (by decide) mw_697 rfl (r0 := 15) (p0 := 11) rfl (v := τ 11) (by rw [qr_at]) d_R_text_44 ?_
        rw [kτ_11]
        refine lv_if_ne (tgt := 84) X.x X.b d_R_text_47 (by decide) (fun c47 => ?_) (fun c47 => ?_)
        · have c47 : ¬ 1 = 0 := fun z => c47 ((nI_eq (a := 1) (b := 0) (by omega) (by omega)).mpr z)
          refine lv_aload_n X.x X.b d_R_text_84 rfl (lv_at hl 0 rfl) ?_
          refine lv_aload_n X.x X.b d_R_text_85 rfl (lv_at hl 0 rfl) ?_
          refine g_geti X hW qj4 rfl _ ds_R 9 (by decide) mw_695 rfl (r0 := 15) (p0 := 9) rfl (v := τ 9) (by rw [qr_at]) d_R_text_86 ?_
          rw [kτ_9]
          refine lv_if_ne (tgt := 96) X.x X.b d_R_text_89 (by decide) (fun c89 => ?_) (fun c89 => ?_)
          · have c89 : ¬ (kR (tK ξ len n)) = 0 := fun z => c89 ((nI_eq (a := (kR (tK ξ len n))) (b := 0) (by omega) (by omega)).mpr z)
            refine lv_iconst (v := nI 0) X.x X.b d_R_text_96 (by decide) ?_
            refine q_cvvp X (c_R_must_w l E (qr (qr S 21 κ) 15 τ) τ ξ (by rw [qr_at]) (by rw [qr_ne (by omega), qr_ne (by omega), hξ]) len n kp mi ta wa hτ (by omega) hlen h0 (nI 0)) hW (q_recv X hW ds_R rfl) ok_R_must mw_1100 ⟨by decide, by decide⟩ (As := [.int (nI 0)]) rfl rfl (Nat.le_of_ble_eq_true rfl) (lv := [(0, .ref (eA E 70))]) hl ⟨Nat.le_refl 0, Nat.le_refl 0⟩ d_R_text_97 (fun H locs Sq97 hP97 hW => ?_)
            obtain ⟨τ97, hτ97, rfl⟩ := hP97
            have hW : qWH E (qr (qr S 21 κ) 15 τ97) s H locs := (by have h := hW; rw [qr_qr] at h; exact h)
            obtain ⟨kτ97_3, kτ97_6, kτ97_7, kτ97_8, kτ97_9, kτ97_10, kτ97_11, kτ97_14, kτ97_15, kτ97_16⟩ := id hτ97
            have bτ97 := tN_n (σ := ξ) (len := len) (n := n) (by omega)
            have dτ97 := tN_le (σ := ξ) (len := len) (n := n) (by omega)
            have eτ97 := kR_le (σ := ξ) (len := len) (n := n)
            refine lv_aload_n X.x X.b d_R_text_100 rfl (lv_at hl 0 rfl) ?_
            refine lv_iconst (v := nI 0) X.x X.b d_R_text_101 (by decide) ?_
            refine g_puti X hW qj4 qp4 qn4 rfl _ ds_R 6 (by decide) mw_692 rfl rfl (r0 := 15) (p0 := 6) rfl rfl rfl (ρ := τ97) (by rw [qr_at]) d_R_text_102 (fun H locs hW => ?_)
            obtain ⟨r102, er102⟩ : ∃ z, z = upd τ97 6 (nI 0) := ⟨_, rfl⟩
            rw [← er102] at hW
            have kr102_10 : r102 10 = tV ξ len n := by rw [er102, upN (by omega)]; exact kτ97_10
            have kr102_11 : r102 11 = nI 1 := by rw [er102, upN (by omega)]; exact kτ97_11
            have kr102_14 : r102 14 = nI mi := by rw [er102, upN (by omega)]; exact kτ97_14
            have kr102_15 : r102 15 = nI ta := by rw [er102, upN (by omega)]; exact kτ97_15
            have kr102_16 : r102 16 = nI wa := by rw [er102, upN (by omega)]; exact kτ97_16
            have kr102_3 : r102 3 = kp := by rw [er102, upN (by omega)]; exact kτ97_3
            have kr102_6 : r102 6 = nI 0 := by rw [er102, upd_at]
            have kr102_7 : r102 7 = nI (tS ξ len n) := by rw [er102, upN (by omega)]; exact kτ97_7
            have kr102_8 : r102 8 = nI (tN ξ len n) := by rw [er102, upN (by omega)]; exact kτ97_8
            have kr102_9 : r102 9 = nI (kR (tK ξ len n)) := by rw [er102, upN (by omega)]; exact kτ97_9
            rw [qr_qr] at hW
            refine lv_aload_n X.x X.b d_R_text_105 rfl (lv_at hl 0 rfl) ?_
            refine g_geti X hW qj4 rfl _ ds_R 11 (by decide) mw_697 rfl (r0 := 15) (p0 := 11) rfl (v := r102 11) (by rw [qr_at]) d_R_text_106 ?_
            rw [kr102_11]
            refine lv_if_eq (tgt := 119) X.x X.b d_R_text_109 (by decide) (fun c109 => ?_) (fun c109 => ?_)
            · exact absurd c109 (by decide)
            · have c109 : ¬ 1 = 0 := fun z => c109 ((nI_eq (a := 1) (b := 0) (by omega) (by omega)).mpr z)
              refine lv_iconst (v := (-1)) X.x X.b d_R_text_112 (by decide) ?_
              refine lv_aload_n X.x X.b d_R_text_113 rfl (lv_at hl 0 rfl) ?_
              refine g_geti X hW qj4 rfl _ ds_R 7 (by decide) mw_693 rfl (r0 := 15) (p0 := 7) rfl (v := r102 7) (by rw [qr_at]) d_R_text_114 ?_
              rw [kr102_7]
              refine lv_isub X.x X.b d_R_text_117 ?_
              have eR := hb0 hs44
              exact q_pzret X rfl hW ⟨eR.symm, ⟨r102, κ, kr102_3, kr102_6, rfl⟩⟩ d_R_text_118
          · have c89 : (kR (tK ξ len n)) = 0 := (nI_eq (a := (kR (tK ξ len n))) (b := 0) (by omega) (by omega)).mp c89
            refine lv_iconst (v := nI 1) X.x X.b d_R_text_92 (by decide) ?_
            refine lv_goto (tgt := 97) X.x X.b d_R_text_93 (by decide) ?_
            refine q_cvvp X (c_R_must_w l E (qr (qr S 21 κ) 15 τ) τ ξ (by rw [qr_at]) (by rw [qr_ne (by omega), qr_ne (by omega), hξ]) len n kp mi ta wa hτ (by omega) hlen h0 (nI 1)) hW (q_recv X hW ds_R rfl) ok_R_must mw_1100 ⟨by decide, by decide⟩ (As := [.int (nI 1)]) rfl rfl (Nat.le_of_ble_eq_true rfl) (lv := [(0, .ref (eA E 70))]) hl ⟨Nat.le_refl 0, Nat.le_refl 0⟩ d_R_text_97 (fun H locs Sq97 hP97 hW => ?_)
            obtain ⟨τ97, hτ97, rfl⟩ := hP97
            have hW : qWH E (qr (qr S 21 κ) 15 τ97) s H locs := (by have h := hW; rw [qr_qr] at h; exact h)
            obtain ⟨kτ97_3, kτ97_6, kτ97_7, kτ97_8, kτ97_9, kτ97_10, kτ97_11, kτ97_14, kτ97_15, kτ97_16⟩ := id hτ97
            have bτ97 := tN_n (σ := ξ) (len := len) (n := n) (by omega)
            have dτ97 := tN_le (σ := ξ) (len := len) (n := n) (by omega)
            have eτ97 := kR_le (σ := ξ) (len := len) (n := n)
            refine lv_aload_n X.x X.b d_R_text_100 rfl (lv_at hl 0 rfl) ?_
            refine lv_iconst (v := nI 0) X.x X.b d_R_text_101 (by decide) ?_
            refine g_puti X hW qj4 qp4 qn4 rfl _ ds_R 6 (by decide) mw_692 rfl rfl (r0 := 15) (p0 := 6) rfl rfl rfl (ρ := τ97) (by rw [qr_at]) d_R_text_102 (fun H locs hW => ?_)
            obtain ⟨r102, er102⟩ : ∃ z, z = upd τ97 6 (nI 0) := ⟨_, rfl⟩
            rw [← er102] at hW
            have kr102_10 : r102 10 = tV ξ len n := by rw [er102, upN (by omega)]; exact kτ97_10
            have kr102_11 : r102 11 = nI 1 := by rw [er102, upN (by omega)]; exact kτ97_11
            have kr102_14 : r102 14 = nI mi := by rw [er102, upN (by omega)]; exact kτ97_14
            have kr102_15 : r102 15 = nI ta := by rw [er102, upN (by omega)]; exact kτ97_15
            have kr102_16 : r102 16 = nI wa := by rw [er102, upN (by omega)]; exact kτ97_16
            have kr102_3 : r102 3 = kp := by rw [er102, upN (by omega)]; exact kτ97_3
            have kr102_6 : r102 6 = nI 0 := by rw [er102, upd_at]
            have kr102_7 : r102 7 = nI (tS ξ len n) := by rw [er102, upN (by omega)]; exact kτ97_7
            have kr102_8 : r102 8 = nI (tN ξ len n) := by rw [er102, upN (by omega)]; exact kτ97_8
            have kr102_9 : r102 9 = nI (kR (tK ξ len n)) := by rw [er102, upN (by omega)]; exact kτ97_9
            rw [qr_qr] at hW
            refine lv_aload_n X.x X.b d_R_text_105 rfl (lv_at hl 0 rfl) ?_
            refine g_geti X hW qj4 rfl _ ds_R 11 (by decide) mw_697 rfl (r0 := 15) (p0 := 11) rfl (v := r102 11) (by rw [qr_at]) d_R_text_106 ?_
            rw [kr102_11]
            refine lv_if_eq (tgt := 119) X.x X.b d_R_text_109 (by decide) (fun c109 => ?_) (fun c109 => ?_)
            · exact absurd c109 (by decide)
            · have c109 : ¬ 1 = 0 := fun z => c109 ((nI_eq (a := 1) (b := 0) (by omega) (by omega)).mpr z)
              refine lv_iconst (v := (-1)) X.x X.b d_R_text_112 (by decide) ?_
              refine lv_aload_n X.x X.b d_R_text_113 rfl (lv_at hl 0 rfl) ?_
              refine g_geti X hW qj4 rfl _ ds_R 7 (by decide) mw_693 rfl (r0 := 15) (p0 := 7) rfl (v := r102 7) (by rw [qr_at]) d_R_text_114 ?_
              rw [kr102_7]
              refine lv_isub X.x X.b d_R_text_117 ?_
              have eR := hb0 hs44
              exact q_pzret X rfl hW ⟨eR.symm, ⟨r102, κ, kr102_3, kr102_6, rfl⟩⟩ d_R_text_118
        · exact absurd c47 (by decide)
  exact loop43 (len - ((rItm ξ len 0 ν).2.1) + 1) ((rItm ξ len 0 ν).1) mq40 ta40 wa40 ((rItm ξ len 0 ν).2.1) ((rItm ξ len 0 ν).2.2) κ40 τ40 hτ40 (by omega) (fun z => by rw [← hGr, rAll_b (k := 0) (by omega) z]) (fun z => by obtain ⟨e1, e2, e3, -, -, -⟩ := hg40 z; have zj := zi40.2.2 z; exact ⟨by omega, by omega, rItm_wf hwf, e2, e3, by rw [e1]; exact (rAll_s (k := 0) (by omega) z).symm.trans hGr⟩) (Nat.lt_succ_self _) _ _ _ hW (lv_sub hl [0] rfl)
