theorem d_Tp_readInto_0 : decode prog_5_method_3_code 0 = .ok (.aload_n 0, 1) := by decide +kernel
theorem d_Tp_readInto_1 : decode prog_5_method_3_code 1 = .ok (.iconst 0, 1) := by decide +kernel
theorem d_Tp_readInto_2 : decode prog_5_method_3_code 2 = .ok (.putfield 19, 3) := by decide +kernel
theorem d_Tp_readInto_5 : decode prog_5_method_3_code 5 = .ok (.iconst 1, 1) := by decide +kernel
theorem d_Tp_readInto_6 : decode prog_5_method_3_code 6 = .ok (.istore_n 2, 1) := by decide +kernel
theorem d_Tp_readInto_7 : decode prog_5_method_3_code 7 = .ok (.iload_n 2, 1) := by decide +kernel
theorem d_Tp_readInto_8 : decode prog_5_method_3_code 8 = .ok (.bipush 120, 2) := by decide +kernel
theorem d_Tp_readInto_10 : decode prog_5_method_3_code 10 = .ok (.if_icmp .gt 44, 3) := by decide +kernel
theorem d_Tp_readInto_13 : decode prog_5_method_3_code 13 = .ok (.aload_n 0, 1) := by decide +kernel
theorem d_Tp_readInto_14 : decode prog_5_method_3_code 14 = .ok (.invokevirtual 31, 3) := by decide +kernel
theorem d_Tp_readInto_17 : decode prog_5_method_3_code 17 = .ok (.aload_n 0, 1) := by decide +kernel
theorem d_Tp_readInto_18 : decode prog_5_method_3_code 18 = .ok (.aload_n 1, 1) := by decide +kernel
theorem d_Tp_readInto_19 : decode prog_5_method_3_code 19 = .ok (.invokevirtual 34, 3) := by decide +kernel
theorem d_Tp_readInto_22 : decode prog_5_method_3_code 22 = .ok (.ifCond .ne 6, 3) := by decide +kernel
theorem d_Tp_readInto_25 : decode prog_5_method_3_code 25 = .ok (.goto 29, 3) := by decide +kernel
theorem d_Tp_readInto_28 : decode prog_5_method_3_code 28 = .ok (.aload_n 0, 1) := by decide +kernel
theorem d_Tp_readInto_29 : decode prog_5_method_3_code 29 = .ok (.getfield 22, 3) := by decide +kernel
theorem d_Tp_readInto_32 : decode prog_5_method_3_code 32 = .ok (.ifCond .ne 5, 3) := by decide +kernel
theorem d_Tp_readInto_35 : decode prog_5_method_3_code 35 = .ok (.iload_n 2, 1) := by decide +kernel
theorem d_Tp_readInto_36 : decode prog_5_method_3_code 36 = .ok (.ireturn, 1) := by decide +kernel
theorem d_Tp_readInto_37 : decode prog_5_method_3_code 37 = .ok (.aload_n 0, 1) := by decide +kernel
theorem d_Tp_readInto_38 : decode prog_5_method_3_code 38 = .ok (.getfield 22, 3) := by decide +kernel
theorem d_Tp_readInto_41 : decode prog_5_method_3_code 41 = .ok (.iconst 3, 1) := by decide +kernel
theorem d_Tp_readInto_42 : decode prog_5_method_3_code 42 = .ok (.if_icmp .eq 6, 3) := by decide +kernel
theorem d_Tp_readInto_45 : decode prog_5_method_3_code 45 = .ok (.goto 9, 3) := by decide +kernel
theorem d_Tp_readInto_48 : decode prog_5_method_3_code 48 = .ok (.iinc 2 1, 3) := by decide +kernel
theorem d_Tp_readInto_51 : decode prog_5_method_3_code 51 = .ok (.goto (-44), 3) := by decide +kernel
theorem d_Tp_readInto_54 : decode prog_5_method_3_code 54 = .ok (.iconst (-1), 1) := by decide +kernel
theorem d_Tp_readInto_55 : decode prog_5_method_3_code 55 = .ok (.aload_n 0, 1) := by decide +kernel
theorem d_Tp_readInto_56 : decode prog_5_method_3_code 56 = .ok (.getfield 25, 3) := by decide +kernel
theorem d_Tp_readInto_59 : decode prog_5_method_3_code 59 = .ok (.isub, 1) := by decide +kernel
theorem d_Tp_readInto_60 : decode prog_5_method_3_code 60 = .ok (.ireturn, 1) := by decide +kernel
theorem d_X_text_0 : decode prog_1_method_31_code 0 = .ok (.aload_n 0, 1) := by decide +kernel
theorem d_X_text_1 : decode prog_1_method_31_code 1 = .ok (.getfield 19, 3) := by decide +kernel
theorem d_X_text_4 : decode prog_1_method_31_code 4 = .ok (.aload_n 0, 1) := by decide +kernel
theorem d_X_text_5 : decode prog_1_method_31_code 5 = .ok (.getfield 12, 3) := by decide +kernel
theorem d_X_text_8 : decode prog_1_method_31_code 8 = .ok (.invokevirtual 140, 3) := by decide +kernel
theorem d_X_text_11 : decode prog_1_method_31_code 11 = .ok (.aload_n 0, 1) := by decide +kernel
theorem d_X_text_12 : decode prog_1_method_31_code 12 = .ok (.getfield 29, 3) := by decide +kernel
theorem d_X_text_15 : decode prog_1_method_31_code 15 = .ok (.aload_n 0, 1) := by decide +kernel
theorem d_X_text_16 : decode prog_1_method_31_code 16 = .ok (.getfield 19, 3) := by decide +kernel
theorem d_X_text_19 : decode prog_1_method_31_code 19 = .ok (.invokevirtual 185, 3) := by decide +kernel
theorem d_X_text_22 : decode prog_1_method_31_code 22 = .ok (.istore_n 1, 1) := by decide +kernel
theorem d_X_text_23 : decode prog_1_method_31_code 23 = .ok (.aload_n 0, 1) := by decide +kernel
theorem d_X_text_24 : decode prog_1_method_31_code 24 = .ok (.getfield 29, 3) := by decide +kernel
theorem d_X_text_27 : decode prog_1_method_31_code 27 = .ok (.iconst 0, 1) := by decide +kernel
theorem d_X_text_28 : decode prog_1_method_31_code 28 = .ok (.putfield 178, 3) := by decide +kernel
theorem d_X_text_31 : decode prog_1_method_31_code 31 = .ok (.iload_n 1, 1) := by decide +kernel
theorem d_X_text_32 : decode prog_1_method_31_code 32 = .ok (.ifCond .le 14, 3) := by decide +kernel
theorem d_X_text_35 : decode prog_1_method_31_code 35 = .ok (.aload_n 0, 1) := by decide +kernel
theorem d_X_text_36 : decode prog_1_method_31_code 36 = .ok (.getfield 12, 3) := by decide +kernel
theorem d_X_text_39 : decode prog_1_method_31_code 39 = .ok (.aload_n 0, 1) := by decide +kernel
theorem d_X_text_40 : decode prog_1_method_31_code 40 = .ok (.getfield 19, 3) := by decide +kernel
theorem d_X_text_43 : decode prog_1_method_31_code 43 = .ok (.invokevirtual 140, 3) := by decide +kernel
theorem d_X_text_46 : decode prog_1_method_31_code 46 = .ok (.iload_n 1, 1) := by decide +kernel
theorem d_X_text_47 : decode prog_1_method_31_code 47 = .ok (.ireturn, 1) := by decide +kernel
set_option maxHeartbeats 1000000 in
set_option maxRecDepth 20000 in
theorem c_Tp_readInto (l : Launch) (E : QE) (S : QM) (θ σ ρ : Nat → Int32) (hθ : S 4 = θ) (hσ : S 5 = σ) (hρ : S 2 = ρ) (hwf : WF ρ) (len : Nat) (kθ_1 : θ 1 = nI len) (hlen : len ≤ 120) : qCPi E l y_Tp_readInto prog_5_method_3_code 3 .int 9 [.ref (eA E 58), .ref (eA E (cB 2))] S ((rAll σ len 120 0 0 ρ).1) (fun u => ∃ τ, τ 1 = nI len ∧ u = qr (qr S 4 τ) 2 (rAll σ len 120 0 0 ρ).2) := by
  refine qCPi_of (by decide) (Nat.le_of_ble_eq_true rfl) (fun p e s m below meth c ls X hW hl => ?_)
  have hl : lv_has ls 3 [(0, .ref (eA E 58)), (1, .ref (eA E (cB 2)))] := hl
  have hW : qWH E (qr (qr S 4 θ) 2 ρ) s s.heap [] := by rw [show qr (qr S 4 θ) 2 ρ = S from by rw [← hθ, qr_self, ← hρ, qr_self]]; exact hW
  have htl := hwf.tl
  have hwl := hwf.wl
  have hdl := hwf.dl
  refine lv_aload_n X.x X.b d_Tp_readInto_0 rfl (lv_at hl 0 rfl) ?_
  refine lv_iconst (v := nI 0) X.x X.b d_Tp_readInto_1 (by decide) ?_
  refine g_puti X hW qj2 qp2 qn2 rfl _ ds_T 2 (by decide) mw_146 rfl rfl (r0 := 4) (p0 := 2) rfl rfl rfl (ρ := θ) (by rw [qr_ne (by omega), qr_at]) d_Tp_readInto_2 (fun H locs hW => ?_)
  obtain ⟨r2, er2⟩ : ∃ z, z = upd θ 2 (nI 0) := ⟨_, rfl⟩
  rw [← er2] at hW
  have kr2_1 : r2 1 = nI len := by rw [er2, upN (by decide)]; exact kθ_1
  have kr2_2 : r2 2 = nI 0 := by rw [er2, upd_at]
  rw [qr_in (by omega)] at hW
  refine lv_iconst (v := nI 1) X.x X.b d_Tp_readInto_5 (by decide) ?_
  refine lv_istore_n (lv' := [(2, .int (nI 1)), (0, .ref (eA E 58)), (1, .ref (eA E (cB 2)))]) X.x X.b d_Tp_readInto_6 rfl hl (by decide) rfl (fun ls hl => ?_)
  have loop7 : ∀ (fu7 : Nat) (k : Nat) (n : Nat) (μ : Nat → Int32) (ν : Nat → Int32), 1 ≤ k → 2 * (k - 1) ≤ n → n ≤ len → WF μ → rAll σ len (121 - k) (k - 1) n μ = rAll σ len 120 0 0 ρ → ν 1 = nI len → ν 2 = nI n → 122 - k < fu7 → ∀ (H : Heap) (locs : List Loc) (ls : Array Slot), qWH E (qr (qr S 4 ν) 2 μ) s H locs → lv_has ls 3 [(2, .int (nI k)), (0, .ref (eA E 58)), (1, .ref (eA E (cB 2)))] → W p l e (qRm 9) s m ([.ref (eA E 58), .ref (eA E (cB 2))] : List Value).toArray below meth c H locs 0 0 (MQ below (qQpi E ((rAll σ len 120 0 0 ρ).1) (fun u => ∃ τ, τ 1 = nI len ∧ u = qr (qr S 4 τ) 2 (rAll σ len 120 0 0 ρ).2) s.heap.size) ([.ref (eA E 58), .ref (eA E (cB 2))] : List Value).toArray s 0 0 (qAA E s.heap.size)) (F0 m 7 ls []) := by
    intro fu7
    induction fu7 with
    | zero =>
      intro k n μ ν hk1 hkn hn hμ hR kν_1 kν_2 hfu
      exact absurd hfu (Nat.not_lt_zero _)
    | succ fu7 ih7 =>
      intro k n μ ν hk1 hkn hn hμ hR kν_1 kν_2 hfu H locs ls hW hl
      refine lv_iload_n X.x X.b d_Tp_readInto_7 rfl (lv_at hl 0 rfl) ?_
      refine lv_bipush (v := nI 120) X.x X.b d_Tp_readInto_8 (by decide) ?_
      refine lv_icmp_gt (tgt := 54) X.x X.b d_Tp_readInto_10 (by decide) (fun c10 => ?_) (fun c10 => ?_)
      · have c10 : 120 < k := (nI_ltI (a := 120) (b := k) (by omega) (by omega)).mp c10
        omega
      · have c10 : ¬ 120 < k := fun z => c10 ((nI_ltI (a := 120) (b := k) (by omega) (by omega)).mpr z)
        refine lv_aload_n X.x X.b d_Tp_readInto_13 rfl (lv_at hl 1 rfl) ?_
        refine q_cvvp X (c_Tp_step l E (qr (qr S 4 ν) 2 μ) ν σ (by rw [qr_ne (by omega), qr_at]) (by rw [qr_ne (by omega), qr_ne (by omega), hσ]) len n kν_1 kν_2 (by omega) (by omega)) hW (q_recv X hW ds_T rfl) ok_Tp_step mw_490 ⟨by decide, by decide⟩ (As := []) rfl rfl (Nat.le_of_ble_eq_true rfl) (lv := [(2, .int (nI k)), (0, .ref (eA E 58)), (1, .ref (eA E (cB 2)))]) hl ⟨Nat.le_refl 0, Nat.le_refl 0⟩ d_Tp_readInto_14 (fun H locs Sq14 hP14 hW => ?_)
        obtain ⟨τ14, hτ14, rfl⟩ := hP14
        have hW : qWH E (qr (qr S 4 τ14) 2 μ) s H locs := (by have h := hW; rw [qr_in (by omega)] at h; exact h)
        obtain ⟨kτ14_1, kτ14_2, kτ14_3, kτ14_4, kτ14_5⟩ := id hτ14
        have bτ14 := tN_n (σ := σ) (len := len) (n := n) (by omega)
        have dτ14 := tN_le (σ := σ) (len := len) (n := n) (by omega)
        have eτ14 := tK_le (σ := σ) (len := len) (n := n)
        refine lv_aload_n X.x X.b d_Tp_readInto_17 rfl (lv_at hl 1 rfl) ?_
        refine lv_aload_n X.x X.b d_Tp_readInto_18 rfl (lv_at hl 2 rfl) ?_
        refine q_cvip X (c_Tp_readItem l E (qr (qr S 4 τ14) 2 μ) τ14 σ μ (by rw [qr_ne (by omega), qr_at]) (by rw [qr_ne (by omega), qr_ne (by omega), hσ]) (by rw [qr_at]) hμ len n hτ14 (by omega) (by omega)) hW (q_recv X hW ds_T rfl) ok_Tp_readItem mw_501 ⟨by decide, by decide⟩ (As := [.ref (eA E (cB 2))]) rfl rfl (Nat.le_of_ble_eq_true rfl) (lv := [(2, .int (nI k)), (0, .ref (eA E 58)), (1, .ref (eA E (cB 2)))]) hl ⟨Nat.le_refl 0, Nat.le_refl 0⟩ d_Tp_readInto_19 (fun H locs Sq19 hP19 hW => ?_)
        obtain ⟨τ19, hτ19, rfl⟩ := hP19
        have hW : qWH E (qr (qr S 4 τ19) 2 ((rItm σ len n μ).2.2)) s H locs := (by have h := hW; first | (rw [qr_in (by omega), qr_in (by omega)] at h; exact h) | (rw [qr_in (by omega), qr_qr] at h; exact h))
        have z19 : (rItm σ len n μ).2.1 ≤ len := (rItm_le (by omega)).2.1
        obtain ⟨kτ19_1, kτ19_2, kτ19_3, kτ19_4, kτ19_5⟩ := id hτ19
        have bτ19 := tN_n (σ := σ) (len := len) (n := (rItm σ len n μ).2.1) (by omega)
        have dτ19 := tN_le (σ := σ) (len := len) (n := (rItm σ len n μ).2.1) (by omega)
        have eτ19 := tK_le (σ := σ) (len := len) (n := (rItm σ len n μ).2.1)
        refine lv_if_ne (tgt := 28) X.x X.b d_Tp_readInto_22 (by decide) (fun c22 => ?_) (fun c22 => ?_)
        · have c22 := b2i_n c22
          refine lv_aload_n X.x X.b d_Tp_readInto_28 rfl (lv_at hl 1 rfl) ?_
          refine g_geti X hW qj2 rfl _ ds_T 3 (by decide) mw_147 rfl (r0 := 4) (p0 := 3) rfl (v := τ19 3) (by rw [qr_ne (by omega), qr_at]) d_Tp_readInto_29 ?_
          rw [kτ19_3]
          refine lv_if_ne (tgt := 37) X.x X.b d_Tp_readInto_32 (by decide) (fun c32 => ?_) (fun c32 => ?_)
          · have c32 : ¬ (tK σ len ((rItm σ len n μ).2.1)) = 0 := fun z => c32 ((nI_eq (a := (tK σ len ((rItm σ len n μ).2.1))) (b := 0) (by omega) (by omega)).mpr z)
            refine lv_aload_n X.x X.b d_Tp_readInto_37 rfl (lv_at hl 1 rfl) ?_
            refine g_geti X hW qj2 rfl _ ds_T 3 (by decide) mw_147 rfl (r0 := 4) (p0 := 3) rfl (v := τ19 3) (by rw [qr_ne (by omega), qr_at]) d_Tp_readInto_38 ?_
            rw [kτ19_3]
            refine lv_iconst (v := nI 3) X.x X.b d_Tp_readInto_41 (by decide) ?_
            refine lv_icmp_eq (tgt := 48) X.x X.b d_Tp_readInto_42 (by decide) (fun c42 => ?_) (fun c42 => ?_)
            · have c42 : (tK σ len ((rItm σ len n μ).2.1)) = 3 := (nI_eq (a := (tK σ len ((rItm σ len n μ).2.1))) (b := 3) (by omega) (by omega)).mp c42
              refine lv_iinc (v := nI (k + 1)) (lv' := [(2, .int (nI (k + 1))), (0, .ref (eA E 58)), (1, .ref (eA E (cB 2)))]) X.x X.b d_Tp_readInto_48 hl (k := 0) rfl (by rw [show Int32.ofInt 1 = nI 1 from by decide, nI_add]) (by decide) rfl (fun ls hl => ?_)
              refine lv_goto (tgt := 7) X.x X.b d_Tp_readInto_51 (by decide) ?_
              have g1 := rItm_le (σ := σ) (ρ := μ) hn
              have g2 := g1.2.2 c22
              have g3 := tN_up (σ := σ) g1.2.1 (by rw [c42]; decide)
              have g4 := tS_le (σ := σ) g1.2.1
              exact ih7 (k + 1) (tN σ len ((rItm σ len n μ).2.1)) ((rItm σ len n μ).2.2) τ19 (by omega) (by omega) (by omega) (rItm_wf hμ) (by rw [← hR, show 121 - k = (121 - (k + 1)) + 1 by omega, rAll, if_neg (by rw [c22]; decide), if_neg c32, if_neg (fun z => z c42), show k - 1 + 1 = k + 1 - 1 by omega]) kτ19_1 kτ19_2 (by omega) _ _ _ hW (lv_sub hl [0, 1, 2] rfl)
            · have c42 : ¬ (tK σ len ((rItm σ len n μ).2.1)) = 3 := fun z => c42 ((nI_eq (a := (tK σ len ((rItm σ len n μ).2.1))) (b := 3) (by omega) (by omega)).mpr z)
              refine lv_goto (tgt := 54) X.x X.b d_Tp_readInto_45 (by decide) ?_
              refine lv_iconst (v := (-1)) X.x X.b d_Tp_readInto_54 (by decide) ?_
              refine lv_aload_n X.x X.b d_Tp_readInto_55 rfl (lv_at hl 1 rfl) ?_
              refine g_geti X hW qj2 rfl _ ds_T 4 (by decide) mw_148 rfl (r0 := 4) (p0 := 4) rfl (v := τ19 4) (by rw [qr_ne (by omega), qr_at]) d_Tp_readInto_56 ?_
              rw [kτ19_4]
              refine lv_isub X.x X.b d_Tp_readInto_59 ?_
              have eR : rAll σ len 120 0 0 ρ = ((-1) - nI (tS σ len (rItm σ len n μ).2.1), (rItm σ len n μ).2.2) := by rw [← hR, show 121 - k = (121 - (k + 1)) + 1 by omega, rAll, if_neg (by rw [c22]; decide), if_neg c32, if_pos c42]
              exact q_pzret X rfl hW ⟨by rw [eR], ⟨τ19, kτ19_1, by rw [eR]⟩⟩ d_Tp_readInto_60
          · have c32 : (tK σ len ((rItm σ len n μ).2.1)) = 0 := (nI_eq (a := (tK σ len ((rItm σ len n μ).2.1))) (b := 0) (by omega) (by omega)).mp c32
            refine lv_iload_n X.x X.b d_Tp_readInto_35 rfl (lv_at hl 0 rfl) ?_
            have eR : rAll σ len 120 0 0 ρ = (nI (k - 1 + 1), (rItm σ len n μ).2.2) := by rw [← hR, show 121 - k = (121 - (k + 1)) + 1 by omega, rAll, if_neg (by rw [c22]; decide), if_pos c32]
            exact q_pzret X rfl hW ⟨by rw [eR, show k - 1 + 1 = k by omega], ⟨τ19, kτ19_1, by rw [eR]⟩⟩ d_Tp_readInto_36
        · have c22 := b2i_e c22
          refine lv_goto (tgt := 54) X.x X.b d_Tp_readInto_25 (by decide) ?_
          refine lv_iconst (v := (-1)) X.x X.b d_Tp_readInto_54 (by decide) ?_
          refine lv_aload_n X.x X.b d_Tp_readInto_55 rfl (lv_at hl 1 rfl) ?_
          refine g_geti X hW qj2 rfl _ ds_T 4 (by decide) mw_148 rfl (r0 := 4) (p0 := 4) rfl (v := τ19 4) (by rw [qr_ne (by omega), qr_at]) d_Tp_readInto_56 ?_
          rw [kτ19_4]
          refine lv_isub X.x X.b d_Tp_readInto_59 ?_
          have eR : rAll σ len 120 0 0 ρ = ((-1) - nI (tS σ len (rItm σ len n μ).2.1), (rItm σ len n μ).2.2) := by rw [← hR, show 121 - k = (121 - (k + 1)) + 1 by omega, rAll, if_pos (Bool.of_not_eq_true c22)]
          exact q_pzret X rfl hW ⟨by rw [eR], ⟨τ19, kτ19_1, by rw [eR]⟩⟩ d_Tp_readInto_60
  exact loop7 (122 - 1 + 1) 1 0 ρ r2 (by omega) (by omega) (by omega) hwf rfl kr2_1 kr2_2 (Nat.lt_succ_self _) _ _ _ hW (lv_sub hl [0, 1, 2] rfl)
set_option maxHeartbeats 1000000 in
set_option maxRecDepth 20000 in
theorem c_X_text_g (l : Launch) (E : QE) (S : QM) (ρ τ θ σ : Nat → Int32) (hρ : S 0 = ρ) (hτ : S 2 = τ) (hθ : S 4 = θ) (hσ : S 5 = σ) (hwf : WF ρ) (len : Nat) (hlen1 : θ 1 = nI len) (hlen : len ≤ 120) (h : nI 0 < (rAll σ len 120 0 0 (becS τ ρ)).1) : qCPi E l y_X_text prog_1_method_31_code 2 .int 10 [.ref (eA E 0)] S ((rAll σ len 120 0 0 (becS τ ρ)).1) (fun u => ∃ κ, κ 1 = nI 0 ∧ u = qr (qr (qr S 2 (rAll σ len 120 0 0 (becS τ ρ)).2) 4 κ) 0 (becS ρ (rAll σ len 120 0 0 (becS τ ρ)).2)) := by
  refine qCPi_of (by decide) (Nat.le_of_ble_eq_true rfl) (fun p e s m below meth c ls X hW hl => ?_)
  have hl : lv_has ls 2 [(0, .ref (eA E 0))] := hl
  have hbw : WF (becS τ ρ) := becS_wf hwf
  have hrw : WF (rAll σ len 120 0 0 (becS τ ρ)).2 := rAll_wf _ _ _ _ hbw
  refine lv_aload_n X.x X.b d_X_text_0 rfl (lv_at hl 0 rfl) ?_
  refine q_getr X hW qj3 rfl _ ds_X 2 (by decide) mw_185 rfl (c1 := cB 2) rfl d_X_text_1 ?_
  refine lv_aload_n X.x X.b d_X_text_4 rfl (lv_at hl 0 rfl) ?_
  refine q_getr X hW qj3 rfl _ ds_X 0 (by decide) mw_183 rfl (c1 := cB 0) rfl d_X_text_5 ?_
  refine q_cvv X (c_Cm_become l E 2 0 (by decide) (by decide) (by decide) S τ ρ (by rw [hτ]) (by rw [hρ]) hwf) hW (q_recv X hW (ds_cm (k := 2) (by decide)) rfl) ok_Cm_become mw_371 ⟨by decide, by decide⟩ (As := [.ref (eA E (cB 0))]) rfl rfl (Nat.le_of_ble_eq_true rfl) (lv := [(0, .ref (eA E 0))]) hl ⟨Nat.le_refl 0, Nat.le_refl 0⟩ d_X_text_8 (fun H locs hW => ?_)
  have hW : qWH E (qr S 2 (becS τ ρ)) s H locs := hW
  refine lv_aload_n X.x X.b d_X_text_11 rfl (lv_at hl 0 rfl) ?_
  refine q_getr X hW qj3 rfl _ ds_X 4 (by decide) mw_187 rfl (c1 := 58) rfl d_X_text_12 ?_
  refine lv_aload_n X.x X.b d_X_text_15 rfl (lv_at hl 0 rfl) ?_
  refine q_getr X hW qj3 rfl _ ds_X 2 (by decide) mw_185 rfl (c1 := cB 2) rfl d_X_text_16 ?_
  refine q_cvip X (c_Tp_readInto l E (qr S 2 (becS τ ρ)) θ σ (becS τ ρ) (by rw [qr_ne (by omega), hθ]) (by rw [qr_ne (by omega), hσ]) (by rw [qr_at]) hbw len hlen1 hlen) hW (q_recv X hW ds_T rfl) ok_Tp_readInto mw_486 ⟨by decide, by decide⟩ (As := [.ref (eA E (cB 2))]) rfl rfl (Nat.le_of_ble_eq_true rfl) (lv := [(0, .ref (eA E 0))]) hl ⟨Nat.le_refl 0, Nat.le_refl 0⟩ d_X_text_19 (fun H locs Sq19 hP19 hW => ?_)
  obtain ⟨τ19, hτ19, rfl⟩ := hP19
  have hW : qWH E (qr (qr S 2 ((rAll σ len 120 0 0 (becS τ ρ)).2)) 4 τ19) s H locs := (by have h := hW; rw [qr_in (by omega)] at h; exact h)
  refine lv_istore_n (lv' := [(1, .int ((rAll σ len 120 0 0 (becS τ ρ)).1)), (0, .ref (eA E 0))]) X.x X.b d_X_text_22 rfl hl (by decide) rfl (fun ls hl => ?_)
  refine lv_aload_n X.x X.b d_X_text_23 rfl (lv_at hl 1 rfl) ?_
  refine q_getr X hW qj3 rfl _ ds_X 4 (by decide) mw_187 rfl (c1 := 58) rfl d_X_text_24 ?_
  refine lv_iconst (v := nI 0) X.x X.b d_X_text_27 (by decide) ?_
  refine g_puti X hW qj2 qp2 qn2 rfl _ ds_T 1 (by decide) mw_145 rfl rfl (r0 := 4) (p0 := 1) rfl rfl rfl (ρ := τ19) (by rw [qr_at]) d_X_text_28 (fun H locs hW => ?_)
  obtain ⟨r28, er28⟩ : ∃ z, z = upd τ19 1 (nI 0) := ⟨_, rfl⟩
  rw [← er28] at hW
  rw [qr_qr] at hW
  refine lv_iload_n X.x X.b d_X_text_31 rfl (lv_at hl 0 rfl) ?_
  refine lv_if_le (tgt := 46) X.x X.b d_X_text_32 (by decide) (fun c32 => ?_) (fun c32 => ?_)
  · exact absurd h (Int32.not_lt.mpr c32)
  · refine lv_aload_n X.x X.b d_X_text_35 rfl (lv_at hl 1 rfl) ?_
    refine q_getr X hW qj3 rfl _ ds_X 0 (by decide) mw_183 rfl (c1 := cB 0) rfl d_X_text_36 ?_
    refine lv_aload_n X.x X.b d_X_text_39 rfl (lv_at hl 1 rfl) ?_
    refine q_getr X hW qj3 rfl _ ds_X 2 (by decide) mw_185 rfl (c1 := cB 2) rfl d_X_text_40 ?_
    refine q_cvv X (c_Cm_become l E 0 2 (by decide) (by decide) (by decide) (qr (qr S 2 ((rAll σ len 120 0 0 (becS τ ρ)).2)) 4 r28) ρ ((rAll σ len 120 0 0 (becS τ ρ)).2) (by rw [qr_ne (by omega), qr_ne (by omega), hρ]) (by rw [qr_ne (by omega), qr_at]) hrw) hW (q_recv X hW (ds_cm (k := 0) (by decide)) rfl) ok_Cm_become mw_371 ⟨by decide, by decide⟩ (As := [.ref (eA E (cB 2))]) rfl rfl (Nat.le_of_ble_eq_true rfl) (lv := [(1, .int ((rAll σ len 120 0 0 (becS τ ρ)).1)), (0, .ref (eA E 0))]) hl ⟨Nat.le_refl 0, Nat.le_refl 0⟩ d_X_text_43 (fun H locs hW => ?_)
    have hW : qWH E (qr (qr (qr S 2 ((rAll σ len 120 0 0 (becS τ ρ)).2)) 4 r28) 0 (becS ρ ((rAll σ len 120 0 0 (becS τ ρ)).2))) s H locs := hW
    refine lv_iload_n X.x X.b d_X_text_46 rfl (lv_at hl 0 rfl) ?_
    exact q_pzret X rfl hW ⟨rfl, ⟨r28, by rw [er28, upd_at], rfl⟩⟩ d_X_text_47
set_option maxHeartbeats 1000000 in
set_option maxRecDepth 20000 in
theorem c_X_text_n (l : Launch) (E : QE) (S : QM) (ρ τ θ σ : Nat → Int32) (hρ : S 0 = ρ) (hτ : S 2 = τ) (hθ : S 4 = θ) (hσ : S 5 = σ) (hwf : WF ρ) (len : Nat) (hlen1 : θ 1 = nI len) (hlen : len ≤ 120) (h : ¬ nI 0 < (rAll σ len 120 0 0 (becS τ ρ)).1) : qCPi E l y_X_text prog_1_method_31_code 2 .int 10 [.ref (eA E 0)] S ((rAll σ len 120 0 0 (becS τ ρ)).1) (fun u => ∃ κ, κ 1 = nI 0 ∧ u = qr (qr S 2 (rAll σ len 120 0 0 (becS τ ρ)).2) 4 κ) := by
  refine qCPi_of (by decide) (Nat.le_of_ble_eq_true rfl) (fun p e s m below meth c ls X hW hl => ?_)
  have hl : lv_has ls 2 [(0, .ref (eA E 0))] := hl
  have hbw : WF (becS τ ρ) := becS_wf hwf
  have hrw : WF (rAll σ len 120 0 0 (becS τ ρ)).2 := rAll_wf _ _ _ _ hbw
  refine lv_aload_n X.x X.b d_X_text_0 rfl (lv_at hl 0 rfl) ?_
  refine q_getr X hW qj3 rfl _ ds_X 2 (by decide) mw_185 rfl (c1 := cB 2) rfl d_X_text_1 ?_
  refine lv_aload_n X.x X.b d_X_text_4 rfl (lv_at hl 0 rfl) ?_
  refine q_getr X hW qj3 rfl _ ds_X 0 (by decide) mw_183 rfl (c1 := cB 0) rfl d_X_text_5 ?_
  refine q_cvv X (c_Cm_become l E 2 0 (by decide) (by decide) (by decide) S τ ρ (by rw [hτ]) (by rw [hρ]) hwf) hW (q_recv X hW (ds_cm (k := 2) (by decide)) rfl) ok_Cm_become mw_371 ⟨by decide, by decide⟩ (As := [.ref (eA E (cB 0))]) rfl rfl (Nat.le_of_ble_eq_true rfl) (lv := [(0, .ref (eA E 0))]) hl ⟨Nat.le_refl 0, Nat.le_refl 0⟩ d_X_text_8 (fun H locs hW => ?_)
  have hW : qWH E (qr S 2 (becS τ ρ)) s H locs := hW
  refine lv_aload_n X.x X.b d_X_text_11 rfl (lv_at hl 0 rfl) ?_
  refine q_getr X hW qj3 rfl _ ds_X 4 (by decide) mw_187 rfl (c1 := 58) rfl d_X_text_12 ?_
  refine lv_aload_n X.x X.b d_X_text_15 rfl (lv_at hl 0 rfl) ?_
  refine q_getr X hW qj3 rfl _ ds_X 2 (by decide) mw_185 rfl (c1 := cB 2) rfl d_X_text_16 ?_
  refine q_cvip X (c_Tp_readInto l E (qr S 2 (becS τ ρ)) θ σ (becS τ ρ) (by rw [qr_ne (by omega), hθ]) (by rw [qr_ne (by omega), hσ]) (by rw [qr_at]) hbw len hlen1 hlen) hW (q_recv X hW ds_T rfl) ok_Tp_readInto mw_486 ⟨by decide, by decide⟩ (As := [.ref (eA E (cB 2))]) rfl rfl (Nat.le_of_ble_eq_true rfl) (lv := [(0, .ref (eA E 0))]) hl ⟨Nat.le_refl 0, Nat.le_refl 0⟩ d_X_text_19 (fun H locs Sq19 hP19 hW => ?_)
  obtain ⟨τ19, hτ19, rfl⟩ := hP19
  have hW : qWH E (qr (qr S 2 ((rAll σ len 120 0 0 (becS τ ρ)).2)) 4 τ19) s H locs := (by have h := hW; rw [qr_in (by omega)] at h; exact h)
  refine lv_istore_n (lv' := [(1, .int ((rAll σ len 120 0 0 (becS τ ρ)).1)), (0, .ref (eA E 0))]) X.x X.b d_X_text_22 rfl hl (by decide) rfl (fun ls hl => ?_)
  refine lv_aload_n X.x X.b d_X_text_23 rfl (lv_at hl 1 rfl) ?_
  refine q_getr X hW qj3 rfl _ ds_X 4 (by decide) mw_187 rfl (c1 := 58) rfl d_X_text_24 ?_
  refine lv_iconst (v := nI 0) X.x X.b d_X_text_27 (by decide) ?_
  refine g_puti X hW qj2 qp2 qn2 rfl _ ds_T 1 (by decide) mw_145 rfl rfl (r0 := 4) (p0 := 1) rfl rfl rfl (ρ := τ19) (by rw [qr_at]) d_X_text_28 (fun H locs hW => ?_)
  obtain ⟨r28, er28⟩ : ∃ z, z = upd τ19 1 (nI 0) := ⟨_, rfl⟩
  rw [← er28] at hW
  rw [qr_qr] at hW
  refine lv_iload_n X.x X.b d_X_text_31 rfl (lv_at hl 0 rfl) ?_
  refine lv_if_le (tgt := 46) X.x X.b d_X_text_32 (by decide) (fun c32 => ?_) (fun c32 => ?_)
  · refine lv_iload_n X.x X.b d_X_text_46 rfl (lv_at hl 0 rfl) ?_
    exact q_pzret X rfl hW ⟨rfl, ⟨r28, by rw [er28, upd_at], rfl⟩⟩ d_X_text_47
  · exact absurd (Int32.not_le.mp c32) h
