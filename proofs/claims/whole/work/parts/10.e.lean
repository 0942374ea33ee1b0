theorem d_Kd_isUnder_0 : decode prog_3_method_2_code 0 = .ok (.iload_n 0, 1) := by decide +kernel
theorem d_Kd_isUnder_1 : decode prog_3_method_2_code 1 = .ok (.istore_n 2, 1) := by decide +kernel
theorem d_Kd_isUnder_2 : decode prog_3_method_2_code 2 = .ok (.iconst 0, 1) := by decide +kernel
theorem d_Kd_isUnder_3 : decode prog_3_method_2_code 3 = .ok (.istore_n 3, 1) := by decide +kernel
theorem d_Kd_isUnder_4 : decode prog_3_method_2_code 4 = .ok (.iload_n 3, 1) := by decide +kernel
theorem d_Kd_isUnder_5 : decode prog_3_method_2_code 5 = .ok (.getstatic 9, 3) := by decide +kernel
theorem d_Kd_isUnder_8 : decode prog_3_method_2_code 8 = .ok (.arraylength, 1) := by decide +kernel
theorem d_Kd_isUnder_9 : decode prog_3_method_2_code 9 = .ok (.if_icmp .ge 34, 3) := by decide +kernel
theorem d_Kd_isUnder_12 : decode prog_3_method_2_code 12 = .ok (.iload_n 2, 1) := by decide +kernel
theorem d_Kd_isUnder_13 : decode prog_3_method_2_code 13 = .ok (.ifCond .lt 30, 3) := by decide +kernel
theorem d_Kd_isUnder_16 : decode prog_3_method_2_code 16 = .ok (.iload_n 2, 1) := by decide +kernel
theorem d_Kd_isUnder_17 : decode prog_3_method_2_code 17 = .ok (.getstatic 9, 3) := by decide +kernel
theorem d_Kd_isUnder_20 : decode prog_3_method_2_code 20 = .ok (.arraylength, 1) := by decide +kernel
theorem d_Kd_isUnder_21 : decode prog_3_method_2_code 21 = .ok (.if_icmp .ge 22, 3) := by decide +kernel
theorem d_Kd_isUnder_24 : decode prog_3_method_2_code 24 = .ok (.iload_n 2, 1) := by decide +kernel
theorem d_Kd_isUnder_25 : decode prog_3_method_2_code 25 = .ok (.iload_n 1, 1) := by decide +kernel
theorem d_Kd_isUnder_26 : decode prog_3_method_2_code 26 = .ok (.if_icmp .ne 5, 3) := by decide +kernel
theorem d_Kd_isUnder_29 : decode prog_3_method_2_code 29 = .ok (.iconst 1, 1) := by decide +kernel
theorem d_Kd_isUnder_30 : decode prog_3_method_2_code 30 = .ok (.ireturn, 1) := by decide +kernel
theorem d_Kd_isUnder_31 : decode prog_3_method_2_code 31 = .ok (.getstatic 9, 3) := by decide +kernel
theorem d_Kd_isUnder_34 : decode prog_3_method_2_code 34 = .ok (.iload_n 2, 1) := by decide +kernel
theorem d_Kd_isUnder_35 : decode prog_3_method_2_code 35 = .ok (.iaload, 1) := by decide +kernel
theorem d_Kd_isUnder_36 : decode prog_3_method_2_code 36 = .ok (.istore_n 2, 1) := by decide +kernel
theorem d_Kd_isUnder_37 : decode prog_3_method_2_code 37 = .ok (.iinc 3 1, 3) := by decide +kernel
theorem d_Kd_isUnder_40 : decode prog_3_method_2_code 40 = .ok (.goto (-36), 3) := by decide +kernel
theorem d_Kd_isUnder_43 : decode prog_3_method_2_code 43 = .ok (.iconst 0, 1) := by decide +kernel
theorem d_Kd_isUnder_44 : decode prog_3_method_2_code 44 = .ok (.ireturn, 1) := by decide +kernel
set_option maxHeartbeats 1000000 in
set_option maxRecDepth 20000 in
theorem c_Kd_isUnder_0 (l : Launch) (E : QE) (S : QM) (b : Nat) (hb : b ≤ 6) : qCI E l y_Kd_isUnder prog_3_method_2_code 4 .boolean 1 [.int (nI 0), .int (nI b)] S (b2i (und 0 b)) S := by
  refine qCI_of (by decide) (Nat.le_of_ble_eq_true rfl) (fun p e s m below meth c ls X hW hl => ?_)
  have hl : lv_has ls 4 [(0, .int (nI 0)), (1, .int (nI b))] := hl
  refine lv_iload_n X.x X.b d_Kd_isUnder_0 rfl (lv_at hl 0 rfl) ?_
  refine lv_istore_n (lv' := [(2, .int (nI 0)), (0, .int (nI 0)), (1, .int (nI b))]) X.x X.b d_Kd_isUnder_1 rfl hl (by decide) rfl (fun ls hl => ?_)
  refine lv_iconst (v := nI 0) X.x X.b d_Kd_isUnder_2 (by decide) ?_
  refine lv_istore_n (lv' := [(3, .int (nI 0)), (2, .int (nI 0)), (0, .int (nI 0)), (1, .int (nI b))]) X.x X.b d_Kd_isUnder_3 rfl hl (by decide) rfl (fun ls hl => ?_)
  refine lv_iload_n X.x X.b d_Kd_isUnder_4 rfl (lv_at hl 0 rfl) ?_
  refine q_gets X hW X.Z.2.2.2.1 mw_609 d_Kd_isUnder_5 ?_
  refine q_zlen X hW X.Z.2.2.2.1 (v := nI 7) rfl d_Kd_isUnder_8 ?_
  refine lv_icmp_ge (tgt := 43) X.x X.b d_Kd_isUnder_9 (by decide) (fun c9 => ?_) (fun c9 => ?_)
  · exact absurd c9 (by decide)
  · have c9 : ¬ 7 ≤ 0 := fun z => c9 ((nI_leI (a := 7) (b := 0) (by omega) (by omega)).mpr z)
    refine lv_iload_n X.x X.b d_Kd_isUnder_12 rfl (lv_at hl 1 rfl) ?_
    refine lv_if_lt (tgt := 43) X.x X.b d_Kd_isUnder_13 (by decide) (fun c13 => ?_) (fun c13 => ?_)
    · exact absurd c13 (by decide)
    · have c13 : ¬ 0 < 0 := fun z => c13 ((nI_ltI (a := 0) (b := 0) (by omega) (by omega)).mpr z)
      refine lv_iload_n X.x X.b d_Kd_isUnder_16 rfl (lv_at hl 1 rfl) ?_
      refine q_gets X hW X.Z.2.2.2.1 mw_609 d_Kd_isUnder_17 ?_
      refine q_zlen X hW X.Z.2.2.2.1 (v := nI 7) rfl d_Kd_isUnder_20 ?_
      refine lv_icmp_ge (tgt := 43) X.x X.b d_Kd_isUnder_21 (by decide) (fun c21 => ?_) (fun c21 => ?_)
      · exact absurd c21 (by decide)
      · have c21 : ¬ 7 ≤ 0 := fun z => c21 ((nI_leI (a := 7) (b := 0) (by omega) (by omega)).mpr z)
        refine lv_iload_n X.x X.b d_Kd_isUnder_24 rfl (lv_at hl 1 rfl) ?_
        refine lv_iload_n X.x X.b d_Kd_isUnder_25 rfl (lv_at hl 3 rfl) ?_
        refine lv_icmp_ne (tgt := 31) X.x X.b d_Kd_isUnder_26 (by decide) (fun c26 => ?_) (fun c26 => ?_)
        · have c26 : ¬ 0 = b := fun z => c26 ((nI_eq (a := 0) (b := b) (by omega) (by omega)).mpr z)
          refine q_gets X hW X.Z.2.2.2.1 mw_609 d_Kd_isUnder_31 ?_
          refine lv_iload_n X.x X.b d_Kd_isUnder_34 rfl (lv_at hl 1 rfl) ?_
          refine g_zald X hW X.Z.2.2.2.1 (q_in (show 0 < 7 by omega) (by decide)) (q_tn (by omega) (Nat.zero_add _)) d_Kd_isUnder_35 ?_
          rw [show zt3.getD 0 0 = (-1) from by decide]
          refine lv_istore_n (lv' := [(2, .int (-1)), (3, .int (nI 0)), (0, .int (nI 0)), (1, .int (nI b))]) X.x X.b d_Kd_isUnder_36 rfl hl (by decide) rfl (fun ls hl => ?_)
          refine lv_iinc (v := nI 1) (lv' := [(3, .int (nI 1)), (2, .int (-1)), (0, .int (nI 0)), (1, .int (nI b))]) X.x X.b d_Kd_isUnder_37 hl (k := 1) rfl (by rw [show Int32.ofInt 1 = nI 1 from by decide, nI_add]) (by decide) rfl (fun ls hl => ?_)
          refine lv_goto (tgt := 4) X.x X.b d_Kd_isUnder_40 (by decide) ?_
          refine lv_iload_n X.x X.b d_Kd_isUnder_4 rfl (lv_at hl 0 rfl) ?_
          refine q_gets X hW X.Z.2.2.2.1 mw_609 d_Kd_isUnder_5 ?_
          refine q_zlen X hW X.Z.2.2.2.1 (v := nI 7) rfl d_Kd_isUnder_8 ?_
          refine lv_icmp_ge (tgt := 43) X.x X.b d_Kd_isUnder_9 (by decide) (fun c9 => ?_) (fun c9 => ?_)
          · exact absurd c9 (by decide)
          · have c9 : ¬ 7 ≤ 1 := fun z => c9 ((nI_leI (a := 7) (b := 1) (by omega) (by omega)).mpr z)
            refine lv_iload_n X.x X.b d_Kd_isUnder_12 rfl (lv_at hl 1 rfl) ?_
            refine lv_if_lt (tgt := 43) X.x X.b d_Kd_isUnder_13 (by decide) (fun c13 => ?_) (fun c13 => ?_)
            · refine lv_iconst (v := nI 0) X.x X.b d_Kd_isUnder_43 (by decide) ?_
              exact q_zret X (by decide) hW ⟨(b2i_f (by simp only [und, anc, List.getD]; simp; omega)).symm, rfl⟩ d_Kd_isUnder_44
            · exact absurd (by decide) c13
        · have c26 : 0 = b := (nI_eq (a := 0) (b := b) (by omega) (by omega)).mp c26
          refine lv_iconst (v := nI 1) X.x X.b d_Kd_isUnder_29 (by decide) ?_
          exact q_zret X (by decide) hW ⟨(b2i_t (by rw [← c26]; decide)).symm, rfl⟩ d_Kd_isUnder_30
set_option maxHeartbeats 1000000 in
set_option maxRecDepth 20000 in
theorem c_Kd_isUnder_1 (l : Launch) (E : QE) (S : QM) (b : Nat) (hb : b ≤ 6) : qCI E l y_Kd_isUnder prog_3_method_2_code 4 .boolean 1 [.int (nI 1), .int (nI b)] S (b2i (und 1 b)) S := by
  refine qCI_of (by decide) (Nat.le_of_ble_eq_true rfl) (fun p e s m below meth c ls X hW hl => ?_)
  have hl : lv_has ls 4 [(0, .int (nI 1)), (1, .int (nI b))] := hl
  refine lv_iload_n X.x X.b d_Kd_isUnder_0 rfl (lv_at hl 0 rfl) ?_
  refine lv_istore_n (lv' := [(2, .int (nI 1)), (0, .int (nI 1)), (1, .int (nI b))]) X.x X.b d_Kd_isUnder_1 rfl hl (by decide) rfl (fun ls hl => ?_)
  refine lv_iconst (v := nI 0) X.x X.b d_Kd_isUnder_2 (by decide) ?_
  refine lv_istore_n (lv' := [(3, .int (nI 0)), (2, .int (nI 1)), (0, .int (nI 1)), (1, .int (nI b))]) X.x X.b d_Kd_isUnder_3 rfl hl (by decide) rfl (fun ls hl => ?_)
  refine lv_iload_n X.x X.b d_Kd_isUnder_4 rfl (lv_at hl 0 rfl) ?_
  refine q_gets X hW X.Z.2.2.2.1 mw_609 d_Kd_isUnder_5 ?_
  refine q_zlen X hW X.Z.2.2.2.1 (v := nI 7) rfl d_Kd_isUnder_8 ?_
  refine lv_icmp_ge (tgt := 43) X.x X.b d_Kd_isUnder_9 (by decide) (fun c9 => ?_) (fun c9 => ?_)
  · exact absurd c9 (by decide)
  · have c9 : ¬ 7 ≤ 0 := fun z => c9 ((nI_leI (a := 7) (b := 0) (by omega) (by omega)).mpr z)
    refine lv_iload_n X.x X.b d_Kd_isUnder_12 rfl (lv_at hl 1 rfl) ?_
    refine lv_if_lt (tgt := 43) X.x X.b d_Kd_isUnder_13 (by decide) (fun c13 => ?_) (fun c13 => ?_)
    · exact absurd c13 (by decide)
    · have c13 : ¬ 1 < 0 := fun z => c13 ((nI_ltI (a := 1) (b := 0) (by omega) (by omega)).mpr z)
      refine lv_iload_n X.x X.b d_Kd_isUnder_16 rfl (lv_at hl 1 rfl) ?_
      refine q_gets X hW X.Z.2.2.2.1 mw_609 d_Kd_isUnder_17 ?_
      refine q_zlen X hW X.Z.2.2.2.1 (v := nI 7) rfl d_Kd_isUnder_20 ?_
      refine lv_icmp_ge (tgt := 43) X.x X.b d_Kd_isUnder_21 (by decide) (fun c21 => ?_) (fun c21 => ?_)
      · exact absurd c21 (by decide)
      · have c21 : ¬ 7 ≤ 1 := fun z => c21 ((nI_leI (a := 7) (b := 1) (by omega) (by omega)).mpr z)
        refine lv_iload_n X.x X.b d_Kd_isUnder_24 rfl (lv_at hl 1 rfl) ?_
        refine lv_iload_n X.x X.b d_Kd_isUnder_25 rfl (lv_at hl 3 rfl) ?_
        refine lv_icmp_ne (tgt := 31) X.x X.b d_Kd_isUnder_26 (by decide) (fun c26 => ?_) (fun c26 => ?_)
        · have c26 : ¬ 1 = b := fun z => c26 ((nI_eq (a := 1) (b := b) (by omega) (by omega)).mpr z)
          refine q_gets X hW X.Z.2.2.2.1 mw_609 d_Kd_isUnder_31 ?_
          refine lv_iload_n X.x X.b d_Kd_isUnder_34 rfl (lv_at hl 1 rfl) ?_
          refine g_zald X hW X.Z.2.2.2.1 (q_in (show 1 < 7 by omega) (by decide)) (q_tn (by omega) (Nat.zero_add _)) d_Kd_isUnder_35 ?_
          rw [show zt3.getD 1 0 = nI 0 from by decide]
          refine lv_istore_n (lv' := [(2, .int (nI 0)), (3, .int (nI 0)), (0, .int (nI 1)), (1, .int (nI b))]) X.x X.b d_Kd_isUnder_36 rfl hl (by decide) rfl (fun ls hl => ?_)
          refine lv_iinc (v := nI 1) (lv' := [(3, .int (nI 1)), (2, .int (nI 0)), (0, .int (nI 1)), (1, .int (nI b))]) X.x X.b d_Kd_isUnder_37 hl (k := 1) rfl (by rw [show Int32.ofInt 1 = nI 1 from by decide, nI_add]) (by decide) rfl (fun ls hl => ?_)
          refine lv_goto (tgt := 4) X.x X.b d_Kd_isUnder_40 (by decide) ?_
          refine lv_iload_n X.x X.b d_Kd_isUnder_4 rfl (lv_at hl 0 rfl) ?_
          refine q_gets X hW X.Z.2.2.2.1 mw_609 d_Kd_isUnder_5 ?_
          refine q_zlen X hW X.Z.2.2.2.1 (v := nI 7) rfl d_Kd_isUnder_8 ?_
          refine lv_icmp_ge (tgt := 43) X.x X.b d_Kd_isUnder_9 (by decide) (fun c9 => ?_) (fun c9 => ?_)
          · exact absurd c9 (by decide)
          · have c9 : ¬ 7 ≤ 1 := fun z => c9 ((nI_leI (a := 7) (b := 1) (by omega) (by omega)).mpr z)
            refine lv_iload_n X.x X.b d_Kd_isUnder_12 rfl (lv_at hl 1 rfl) ?_
            refine lv_if_lt (tgt := 43) X.x X.b d_Kd_isUnder_13 (by decide) (fun c13 => ?_) (fun c13 => ?_)
            · exact absurd c13 (by decide)
            · have c13 : ¬ 0 < 0 := fun z => c13 ((nI_ltI (a := 0) (b := 0) (by omega) (by omega)).mpr z)
              refine lv_iload_n X.x X.b d_Kd_isUnder_16 rfl (lv_at hl 1 rfl) ?_
              refine q_gets X hW X.Z.2.2.2.1 mw_609 d_Kd_isUnder_17 ?_
              refine q_zlen X hW X.Z.2.2.2.1 (v := nI 7) rfl d_Kd_isUnder_20 ?_
              refine lv_icmp_ge (tgt := 43) X.x X.b d_Kd_isUnder_21 (by decide) (fun c21 => ?_) (fun c21 => ?_)
              · exact absurd c21 (by decide)
              · have c21 : ¬ 7 ≤ 0 := fun z => c21 ((nI_leI (a := 7) (b := 0) (by omega) (by omega)).mpr z)
                refine lv_iload_n X.x X.b d_Kd_isUnder_24 rfl (lv_at hl 1 rfl) ?_
                refine lv_iload_n X.x X.b d_Kd_isUnder_25 rfl (lv_at hl 3 rfl) ?_
                refine lv_icmp_ne (tgt := 31) X.x X.b d_Kd_isUnder_26 (by decide) (fun c26 => ?_) (fun c26 => ?_)
                · have c26 : ¬ 0 = b := fun z => c26 ((nI_eq (a := 0) (b := b) (by omega) (by omega)).mpr z)
                  refine q_gets X hW X.Z.2.2.2.1 mw_609 d_Kd_isUnder_31 ?_
                  refine lv_iload_n X.x X.b d_Kd_isUnder_34 rfl (lv_at hl 1 rfl) ?_
                  refine g_zald X hW X.Z.2.2.2.1 (q_in (show 0 < 7 by omega) (by decide)) (q_tn (by omega) (Nat.zero_add _)) d_Kd_isUnder_35 ?_
                  rw [show zt3.getD 0 0 = (-1) from by decide]
                  refine lv_istore_n (lv' := [(2, .int (-1)), (3, .int (nI 1)), (0, .int (nI 1)), (1, .int (nI b))]) X.x X.b d_Kd_isUnder_36 rfl hl (by decide) rfl (fun ls hl => ?_)
                  refine lv_iinc (v := nI 2) (lv' := [(3, .int (nI 2)), (2, .int (-1)), (0, .int (nI 1)), (1, .int (nI b))]) X.x X.b d_Kd_isUnder_37 hl (k := 1) rfl (by rw [show Int32.ofInt 1 = nI 1 from by decide, nI_add]) (by decide) rfl (fun ls hl => ?_)
                  refine lv_goto (tgt := 4) X.x X.b d_Kd_isUnder_40 (by decide) ?_
                  refine lv_iload_n X.x X.b d_Kd_isUnder_4 rfl (lv_at hl 0 rfl) ?_
                  refine q_gets X hW X.Z.2.2.2.1 mw_609 d_Kd_isUnder_5 ?_
                  refine q_zlen X hW X.Z.2.2.2.1 (v := nI 7) rfl d_Kd_isUnder_8 ?_
                  refine lv_icmp_ge (tgt := 43) X.x X.b d_Kd_isUnder_9 (by decide) (fun c9 => ?_) (fun c9 => ?_)
                  · exact absurd c9 (by decide)
                  · have c9 : ¬ 7 ≤ 2 := fun z => c9 ((nI_leI (a := 7) (b := 2) (by omega) (by omega)).mpr z)
                    refine lv_iload_n X.x X.b d_Kd_isUnder_12 rfl (lv_at hl 1 rfl) ?_
                    refine lv_if_lt (tgt := 43) X.x X.b d_Kd_isUnder_13 (by decide) (fun c13 => ?_) (fun c13 => ?_)
                    · refine lv_iconst (v := nI 0) X.x X.b d_Kd_isUnder_43 (by decide) ?_
                      exact q_zret X (by decide) hW ⟨(b2i_f (by simp only [und, anc, List.getD]; simp; omega)).symm, rfl⟩ d_Kd_isUnder_44
                    · exact absurd (by decide) c13
                · have c26 : 0 = b := (nI_eq (a := 0) (b := b) (by omega) (by omega)).mp c26
                  refine lv_iconst (v := nI 1) X.x X.b d_Kd_isUnder_29 (by decide) ?_
                  exact q_zret X (by decide) hW ⟨(b2i_t (by rw [← c26]; decide)).symm, rfl⟩ d_Kd_isUnder_30
        · have c26 : 1 = b := (nI_eq (a := 1) (b := b) (by omega) (by omega)).mp c26
          refine lv_iconst (v := nI 1) X.x X.b d_Kd_isUnder_29 (by decide) ?_
          exact q_zret X (by decide) hW ⟨(b2i_t (by rw [← c26]; decide)).symm, rfl⟩ d_Kd_isUnder_30
set_option maxHeartbeats 1000000 in
set_option maxRecDepth 20000 in
theorem c_Kd_isUnder_2 (l : Launch) (E : QE) (S : QM) (b : Nat) (hb : b ≤ 6) : qCI E l y_Kd_isUnder prog_3_method_2_code 4 .boolean 1 [.int (nI 2), .int (nI b)] S (b2i (und 2 b)) S := by
  refine qCI_of (by decide) (Nat.le_of_ble_eq_true rfl) (fun p e s m below meth c ls X hW hl => ?_)
  have hl : lv_has ls 4 [(0, .int (nI 2)), (1, .int (nI b))] := hl
  refine lv_iload_n X.x X.b d_Kd_isUnder_0 rfl (lv_at hl 0 rfl) ?_
  refine lv_istore_n (lv' := [(2, .int (nI 2)), (0, .int (nI 2)), (1, .int (nI b))]) X.x X.b d_Kd_isUnder_1 rfl hl (by decide) rfl (fun ls hl => ?_)
  refine lv_iconst (v := nI 0) X.x X.b d_Kd_isUnder_2 (by decide) ?_
  refine lv_istore_n (lv' := [(3, .int (nI 0)), (2, .int (nI 2)), (0, .int (nI 2)), (1, .int (nI b))]) X.x X.b d_Kd_isUnder_3 rfl hl (by decide) rfl (fun ls hl => ?_)
  refine lv_iload_n X.x X.b d_Kd_isUnder_4 rfl (lv_at hl 0 rfl) ?_
  refine q_gets X hW X.Z.2.2.2.1 mw_609 d_Kd_isUnder_5 ?_
  refine q_zlen X hW X.Z.2.2.2.1 (v := nI 7) rfl d_Kd_isUnder_8 ?_
  refine lv_icmp_ge (tgt := 43) X.x X.b d_Kd_isUnder_9 (by decide) (fun c9 => ?_) (fun c9 => ?_)
  · exact absurd c9 (by decide)
  · have c9 : ¬ 7 ≤ 0 := fun z => c9 ((nI_leI (a := 7) (b := 0) (by omega) (by omega)).mpr z)
    refine lv_iload_n X.x X.b d_Kd_isUnder_12 rfl (lv_at hl 1 rfl) ?_
    refine lv_if_lt (tgt := 43) X.x X.b d_Kd_isUnder_13 (by decide) (fun c13 => ?_) (fun c13 => ?_)
    · exact absurd c13 (by decide)
    · have c13 : ¬ 2 < 0 := fun z => c13 ((nI_ltI (a := 2) (b := 0) (by omega) (by omega)).mpr z)
      refine lv_iload_n X.x X.b d_Kd_isUnder_16 rfl (lv_at hl 1 rfl) ?_
      refine q_gets X hW X.Z.2.2.2.1 mw_609 d_Kd_isUnder_17 ?_
      refine q_zlen X hW X.Z.2.2.2.1 (v := nI 7) rfl d_Kd_isUnder_20 ?_
      refine lv_icmp_ge (tgt := 43) X.x X.b d_Kd_isUnder_21 (by decide) (fun c21 => ?_) (fun c21 => ?_)
      · exact absurd c21 (by decide)
      · have c21 : ¬ 7 ≤ 2 := fun z => c21 ((nI_leI (a := 7) (b := 2) (by omega) (by omega)).mpr z)
        refine lv_iload_n X.x X.b d_Kd_isUnder_24 rfl (lv_at hl 1 rfl) ?_
        refine lv_iload_n X.x X.b d_Kd_isUnder_25 rfl (lv_at hl 3 rfl) ?_
        refine lv_icmp_ne (tgt := 31) X.x X.b d_Kd_isUnder_26 (by decide) (fun c26 => ?_) (fun c26 => ?_)
        · have c26 : ¬ 2 = b := fun z => c26 ((nI_eq (a := 2) (b := b) (by omega) (by omega)).mpr z)
          refine q_gets X hW X.Z.2.2.2.1 mw_609 d_Kd_isUnder_31 ?_
          refine lv_iload_n X.x X.b d_Kd_isUnder_34 rfl (lv_at hl 1 rfl) ?_
          refine g_zald X hW X.Z.2.2.2.1 (q_in (show 2 < 7 by omega) (by decide)) (q_tn (by omega) (Nat.zero_add _)) d_Kd_isUnder_35 ?_
          rw [show zt3.getD 2 0 = nI 0 from by decide]
          refine lv_istore_n (lv' := [(2, .int (nI 0)), (3, .int (nI 0)), (0, .int (nI 2)), (1, .int (nI b))]) X.x X.b d_Kd_isUnder_36 rfl hl (by decide) rfl (fun ls hl => ?_)
          refine lv_iinc (v := nI 1) (lv' := [(3, .int (nI 1)), (2, .int (nI 0)), (0, .int (nI 2)), (1, .int (nI b))]) X.x X.b d_Kd_isUnder_37 hl (k := 1) rfl (by rw [show Int32.ofInt 1 = nI 1 from by decide, nI_add]) (by decide) rfl (fun ls hl => ?_)
          refine lv_goto (tgt := 4) X.x X.b d_Kd_isUnder_40 (by decide) ?_
          refine lv_iload_n X.x X.b d_Kd_isUnder_4 rfl (lv_at hl 0 rfl) ?_
          refine q_gets X hW X.Z.2.2.2.1 mw_609 d_Kd_isUnder_5 ?_
          refine q_zlen X hW X.Z.2.2.2.1 (v := nI 7) rfl d_Kd_isUnder_8 ?_
          refine lv_icmp_ge (tgt := 43) X.x X.b d_Kd_isUnder_9 (by decide) (fun c9 => ?_) (fun c9 => ?_)
          · exact absurd c9 (by decide)
          · have c9 : ¬ 7 ≤ 1 := fun z => c9 ((nI_leI (a := 7) (b := 1) (by omega) (by omega)).mpr z)
            refine lv_iload_n X.x X.b d_Kd_isUnder_12 rfl (lv_at hl 1 rfl) ?_
            refine lv_if_lt (tgt := 43) X.x X.b d_Kd_isUnder_13 (by decide) (fun c13 => ?_) (fun c13 => ?_)
            · exact absurd c13 (by decide)
            · have c13 : ¬ 0 < 0 := fun z => c13 ((nI_ltI (a := 0) (b := 0) (by omega) (by omega)).mpr z)
              refine lv_iload_n X.x X.b d_Kd_isUnder_16 rfl (lv_at hl 1 rfl) ?_
              refine q_gets X hW X.Z.2.2.2.1 mw_609 d_Kd_isUnder_17 ?_
              refine q_zlen X hW X.Z.2.2.2.1 (v := nI 7) rfl d_Kd_isUnder_20 ?_
              refine lv_icmp_ge (tgt := 43) X.x X.b d_Kd_isUnder_21 (by decide) (fun c21 => ?_) (fun c21 => ?_)
              · exact absurd c21 (by decide)
              · have c21 : ¬ 7 ≤ 0 := fun z => c21 ((nI_leI (a := 7) (b := 0) (by omega) (by omega)).mpr z)
                refine lv_iload_n X.x X.b d_Kd_isUnder_24 rfl (lv_at hl 1 rfl) ?_
                refine lv_iload_n X.x X.b d_Kd_isUnder_25 rfl (lv_at hl 3 rfl) ?_
                refine lv_icmp_ne (tgt := 31) X.x X.b d_Kd_isUnder_26 (by decide) (fun c26 => ?_) (fun c26 => ?_)
                · have c26 : ¬ 0 = b := fun z => c26 ((nI_eq (a := 0) (b := b) (by omega) (by omega)).mpr z)
                  refine q_gets X hW X.Z.2.2.2.1 mw_609 d_Kd_isUnder_31 ?_
                  refine lv_iload_n X.x X.b d_Kd_isUnder_34 rfl (lv_at hl 1 rfl) ?_
                  refine g_zald X hW X.Z.2.2.2.1 (q_in (show 0 < 7 by omega) (by decide)) (q_tn (by omega) (Nat.zero_add _)) d_Kd_isUnder_35 ?_
                  rw [show zt3.getD 0 0 = (-1) from by decide]
                  refine lv_istore_n (lv' := [(2, .int (-1)), (3, .int (nI 1)), (0, .int (nI 2)), (1, .int (nI b))]) X.x X.b d_Kd_isUnder_36 rfl hl (by decide) rfl (fun ls hl => ?_)
                  refine lv_iinc (v := nI 2) (lv' := [(3, .int (nI 2)), (2, .int (-1)), (0, .int (nI 2)), (1, .int (nI b))]) X.x X.b d_Kd_isUnder_37 hl (k := 1) rfl (by rw [show Int32.ofInt 1 = nI 1 from by decide, nI_add]) (by decide) rfl (fun ls hl => ?_)
                  refine lv_goto (tgt := 4) X.x X.b d_Kd_isUnder_40 (by decide) ?_
                  refine lv_iload_n X.x X.b d_Kd_isUnder_4 rfl (lv_at hl 0 rfl) ?_
                  refine q_gets X hW X.Z.2.2.2.1 mw_609 d_Kd_isUnder_5 ?_
                  refine q_zlen X hW X.Z.2.2.2.1 (v := nI 7) rfl d_Kd_isUnder_8 ?_
                  refine lv_icmp_ge (tgt := 43) X.x X.b d_Kd_isUnder_9 (by decide) (fun c9 => ?_) (fun c9 => ?_)
                  · exact absurd c9 (by decide)
                  · have c9 : ¬ 7 ≤ 2 := fun z => c9 ((nI_leI (a := 7) (b := 2) (by omega) (by omega)).mpr z)
                    refine lv_iload_n X.x X.b d_Kd_isUnder_12 rfl (lv_at hl 1 rfl) ?_
                    refine lv_if_lt (tgt := 43) X.x X.b d_Kd_isUnder_13 (by decide) (fun c13 => ?_) (fun c13 => ?_)
                    · refine lv_iconst (v := nI 0) X.x X.b d_Kd_isUnder_43 (by decide) ?_
                      exact q_zret X (by decide) hW ⟨(b2i_f (by simp only [und, anc, List.getD]; simp; omega)).symm, rfl⟩ d_Kd_isUnder_44
                    · exact absurd (by decide) c13
                · have c26 : 0 = b := (nI_eq (a := 0) (b := b) (by omega) (by omega)).mp c26
                  refine lv_iconst (v := nI 1) X.x X.b d_Kd_isUnder_29 (by decide) ?_
                  exact q_zret X (by decide) hW ⟨(b2i_t (by rw [← c26]; decide)).symm, rfl⟩ d_Kd_isUnder_30
        · have c26 : 2 = b := (nI_eq (a := 2) (b := b) (by omega) (by omega)).mp c26
          refine lv_iconst (v := nI 1) X.x X.b d_Kd_isUnder_29 (by decide) ?_
          exact q_zret X (by decide) hW ⟨(b2i_t (by rw [← c26]; decide)).symm, rfl⟩ d_Kd_isUnder_30
set_option maxHeartbeats 1000000 in
set_option maxRecDepth 20000 in
theorem c_Kd_isUnder_3 (l : Launch) (E : QE) (S : QM) (b : Nat) (hb : b ≤ 6) : qCI E l y_Kd_isUnder prog_3_method_2_code 4 .boolean 1 [.int (nI 3), .int (nI b)] S (b2i (und 3 b)) S := by
  refine qCI_of (by decide) (Nat.le_of_ble_eq_true rfl) (fun p e s m below meth c ls X hW hl => ?_)
  have hl : lv_has ls 4 [(0, .int (nI 3)), (1, .int (nI b))] := hl
  refine lv_iload_n X.x X.b d_Kd_isUnder_0 rfl (lv_at hl 0 rfl) ?_
  refine lv_istore_n (lv' := [(2, .int (nI 3)), (0, .int (nI 3)), (1, .int (nI b))]) X.x X.b d_Kd_isUnder_1 rfl hl (by decide) rfl (fun ls hl => ?_)
  refine lv_iconst (v := nI 0) X.x X.b d_Kd_isUnder_2 (by decide) ?_
  refine lv_istore_n (lv' := [(3, .int (nI 0)), (2, .int (nI 3)), (0, .int (nI 3)), (1, .int (nI b))]) X.x X.b d_Kd_isUnder_3 rfl hl (by decide) rfl (fun ls hl => ?_)
  refine lv_iload_n X.x X.b d_Kd_isUnder_4 rfl (lv_at hl 0 rfl) ?_
  refine q_gets X hW X.Z.2.2.2.1 mw_609 d_Kd_isUnder_5 ?_
  refine q_zlen X hW X.Z.2.2.2.1 (v := nI 7) rfl d_Kd_isUnder_8 ?_
  refine lv_icmp_ge (tgt := 43) X.x X.b d_Kd_isUnder_9 (by decide) (fun c9 => ?_) (fun c9 => ?_)
  · exact absurd c9 (by decide)
  · have c9 : ¬ 7 ≤ 0 := fun z => c9 ((nI_leI (a := 7) (b := 0) (by omega) (by omega)).mpr z)
    refine lv_iload_n X.x X.b d_Kd_isUnder_12 rfl (lv_at hl 1 rfl) ?_
    refine lv_if_lt (tgt := 43) X.x X.b d_Kd_isUnder_13 (by decide) (fun c13 => ?_) (fun c13 => ?_)
    · exact absurd c13 (by decide)
    · have c13 : ¬ 3 < 0 := fun z => c13 ((nI_ltI (a := 3) (b := 0) (by omega) (by omega)).mpr z)
      refine lv_iload_n X.x X.b d_Kd_isUnder_16 rfl (lv_at hl 1 rfl) ?_
      refine q_gets X hW X.Z.2.2.2.1 mw_609 d_Kd_isUnder_17 ?_
      refine q_zlen X hW X.Z.2.2.2.1 (v := nI 7) rfl d_Kd_isUnder_20 ?_
      refine lv_icmp_ge (tgt := 43) X.x X.b d_Kd_isUnder_21 (by decide) (fun c21 => ?_) (fun c21 => ?_)
      · exact absurd c21 (by decide)
      · have c21 : ¬ 7 ≤ 3 := fun z => c21 ((nI_leI (a := 7) (b := 3) (by omega) (by omega)).mpr z)
        refine lv_iload_n X.x X.b d_Kd_isUnder_24 rfl (lv_at hl 1 rfl) ?_
        refine lv_iload_n X.x X.b d_Kd_isUnder_25 rfl (lv_at hl 3 rfl) ?_
        refine lv_icmp_ne (tgt := 31) X.x X.b d_Kd_isUnder_26 (by decide) (fun c26 => ?_) (fun c26 => ?_)
        · have c26 : ¬ 3 = b := fun z => c26 ((nI_eq (a := 3) (b := b) (by omega) (by omega)).mpr z)
          refine q_gets X hW X.Z.2.2.2.1 mw_609 d_Kd_isUnder_31 ?_
          refine lv_iload_n X.x X.b d_Kd_isUnder_34 rfl (lv_at hl 1 rfl) ?_
          refine g_zald X hW X.Z.2.2.2.1 (q_in (show 3 < 7 by omega) (by decide)) (q_tn (by omega) (Nat.zero_add _)) d_Kd_isUnder_35 ?_
          rw [show zt3.getD 3 0 = nI 2 from by decide]
          refine lv_istore_n (lv' := [(2, .int (nI 2)), (3, .int (nI 0)), (0, .int (nI 3)), (1, .int (nI b))]) X.x X.b d_Kd_isUnder_36 rfl hl (by decide) rfl (fun ls hl => ?_)
          refine lv_iinc (v := nI 1) (lv' := [(3, .int (nI 1)), (2, .int (nI 2)), (0, .int (nI 3)), (1, .int (nI b))]) X.x X.b d_Kd_isUnder_37 hl (k := 1) rfl (by rw [show Int32.ofInt 1 = nI 1 from by decide, nI_add]) (by decide) rfl (fun ls hl => ?_)
          refine lv_goto (tgt := 4) X.x X.b d_Kd_isUnder_40 (by decide) ?_
          refine lv_iload_n X.x X.b d_Kd_isUnder_4 rfl (lv_at hl 0 rfl) ?_
          refine q_gets X hW X.Z.2.2.2.1 mw_609 d_Kd_isUnder_5 ?_
          refine q_zlen X hW X.Z.2.2.2.1 (v := nI 7) rfl d_Kd_isUnder_8 ?_
          refine lv_icmp_ge (tgt := 43) X.x X.b d_Kd_isUnder_9 (by decide) (fun c9 => ?_) (fun c9 => ?_)
          · exact absurd c9 (by decide)
          · have c9 : ¬ 7 ≤ 1 := fun z => c9 ((nI_leI (a := 7) (b := 1) (by omega) (by omega)).mpr z)
            refine lv_iload_n X.x X.b d_Kd_isUnder_12 rfl (lv_at hl 1 rfl) ?_
            refine lv_if_lt (tgt := 43) X.x X.b d_Kd_isUnder_13 (by decide) (fun c13 => ?_) (fun c13 => ?_)
            · exact absurd c13 (by decide)
            · have c13 : ¬ 2 < 0 := fun z => c13 ((nI_ltI (a := 2) (b := 0) (by omega) (by omega)).mpr z)
              refine lv_iload_n X.x X.b d_Kd_isUnder_16 rfl (lv_at hl 1 rfl) ?_
              refine q_gets X hW X.Z.2.2.2.1 mw_609 d_Kd_isUnder_17 ?_
              refine q_zlen X hW X.Z.2.2.2.1 (v := nI 7) rfl d_Kd_isUnder_20 ?_
              refine lv_icmp_ge (tgt := 43) X.x X.b d_Kd_isUnder_21 (by decide) (fun c21 => ?_) (fun c21 => ?_)
              · exact absurd c21 (by decide)
              · have c21 : ¬ 7 ≤ 2 := fun z => c21 ((nI_leI (a := 7) (b := 2) (by omega) (by omega)).mpr z)
                refine lv_iload_n X.x X.b d_Kd_isUnder_24 rfl (lv_at hl 1 rfl) ?_
                refine lv_iload_n X.x X.b d_Kd_isUnder_25 rfl (lv_at hl 3 rfl) ?_
                refine lv_icmp_ne (tgt := 31) X.x X.b d_Kd_isUnder_26 (by decide) (fun c26 => ?_) (fun c26 => ?_)
                · have c26 : ¬ 2 = b := fun z => c26 ((nI_eq (a := 2) (b := b) (by omega) (by omega)).mpr z)
                  refine q_gets X hW X.Z.2.2.2.1 mw_609 d_Kd_isUnder_31 ?_
                  refine lv_iload_n X.x X.b d_Kd_isUnder_34 rfl (lv_at hl 1 rfl) ?_
                  refine g_zald X hW X.Z.2.2.2.1 (q_in (show 2 < 7 by omega) (by decide)) (q_tn (by omega) (Nat.zero_add _)) d_Kd_isUnder_35 ?_
                  rw [show zt3.getD 2 0 = nI 0 from by decide]
                  refine lv_istore_n (lv' := [(2, .int (nI 0)), (3, .int (nI 1)), (0, .int (nI 3)), (1, .int (nI b))]) X.x X.b d_Kd_isUnder_36 rfl hl (by decide) rfl (fun ls hl => ?_)
                  refine lv_iinc (v := nI 2) (lv' := [(3, .int (nI 2)), (2, .int (nI 0)), (0, .int (nI 3)), (1, .int (nI b))]) X.x X.b d_Kd_isUnder_37 hl (k := 1) rfl (by rw [show Int32.ofInt 1 = nI 1 from by decide, nI_add]) (by decide) rfl (fun ls hl => ?_)
                  refine lv_goto (tgt := 4) X.x X.b d_Kd_isUnder_40 (by decide) ?_
                  refine lv_iload_n X.x X.b d_Kd_isUnder_4 rfl (lv_at hl 0 rfl) ?_
                  refine q_gets X hW X.Z.2.2.2.1 mw_609 d_Kd_isUnder_5 ?_
                  refine q_zlen X hW X.Z.2.2.2.1 (v := nI 7) rfl d_Kd_isUnder_8 ?_
                  refine lv_icmp_ge (tgt := 43) X.x X.b d_Kd_isUnder_9 (by decide) (fun c9 => ?_) (fun c9 => ?_)
                  · exact absurd c9 (by decide)
                  · have c9 : ¬ 7 ≤ 2 := fun z => c9 ((nI_leI (a := 7) (b := 2) (by omega) (by omega)).mpr z)
                    refine lv_iload_n X.x X.b d_Kd_isUnder_12 rfl (lv_at hl 1 rfl) ?_
                    refine lv_if_lt (tgt := 43) X.x X.b d_Kd_isUnder_13 (by decide) (fun c13 => ?_) (fun c13 => ?_)
                    · exact absurd c13 (by decide)
                    · have c13 : ¬ 0 < 0 := fun z => c13 ((nI_ltI (a := 0) (b := 0) (by omega) (by omega)).mpr z)
                      refine lv_iload_n X.x X.b d_Kd_isUnder_16 rfl (lv_at hl 1 rfl) ?_
                      refine q_gets X hW X.Z.2.2.2.1 mw_609 d_Kd_isUnder_17 ?_
                      refine q_zlen X hW X.Z.2.2.2.1 (v := nI 7) rfl d_Kd_isUnder_20 ?_
                      refine lv_icmp_ge (tgt := 43) X.x X.b d_Kd_isUnder_21 (by decide) (fun c21 => ?_) (fun c21 => ?_)
                      · exact absurd c21 (by decide)
                      · have c21 : ¬ 7 ≤ 0 := fun z => c21 ((nI_leI (a := 7) (b := 0) (by omega) (by omega)).mpr z)
                        refine lv_iload_n X.x X.b d_Kd_isUnder_24 rfl (lv_at hl 1 rfl) ?_
                        refine lv_iload_n X.x X.b d_Kd_isUnder_25 rfl (lv_at hl 3 rfl) ?_
                        refine lv_icmp_ne (tgt := 31) X.x X.b d_Kd_isUnder_26 (by decide) (fun c26 => ?_) (fun c26 => ?_)
                        · have c26 : ¬ 0 = b := fun z => c26 ((nI_eq (a := 0) (b := b) (by omega) (by omega)).mpr z)
                          refine q_gets X hW X.Z.2.2.2.1 mw_609 d_Kd_isUnder_31 ?_
                          refine lv_iload_n X.x X.b d_Kd_isUnder_34 rfl (lv_at hl 1 rfl) ?_
                          refine g_zald X hW X.Z.2.2.2.1 (q_in (show 0 < 7 by omega) (by decide)) (q_tn (by omega) (Nat.zero_add _)) d_Kd_isUnder_35 ?_
                          rw [show zt3.getD 0 0 = (-1) from by decide]
                          refine lv_istore_n (lv' := [(2, .int (-1)), (3, .int (nI 2)), (0, .int (nI 3)), (1, .int (nI b))]) X.x X.b d_Kd_isUnder_36 rfl hl (by decide) rfl (fun ls hl => ?_)
                          refine lv_iinc (v := nI 3) (lv' := [(3, .int (nI 3)), (2, .int (-1)), (0, .int (nI 3)), (1, .int (nI b))]) X.x X.b d_Kd_isUnder_37 hl (k := 1) rfl (by rw [show Int32.ofInt 1 = nI 1 from by decide, nI_add]) (by decide) rfl (fun ls hl => ?_)
                          refine lv_goto (tgt := 4) X.x X.b d_Kd_isUnder_40 (by decide) ?_
                          refine lv_iload_n X.x X.b d_Kd_isUnder_4 rfl (lv_at hl 0 rfl) ?_
                          refine q_gets X hW X.Z.2.2.2.1 mw_609 d_Kd_isUnder_5 ?_
                          refine q_zlen X hW X.Z.2.2.2.1 (v := nI 7) rfl d_Kd_isUnder_8 ?_
                          refine lv_icmp_ge (tgt := 43) X.x X.b d_Kd_isUnder_9 (by decide) (fun c9 => ?_) (fun c9 => ?_)
                          · exact absurd c9 (by decide)
                          · have c9 : ¬ 7 ≤ 3 := fun z => c9 ((nI_leI (a := 7) (b := 3) (by omega) (by omega)).mpr z)
                            refine lv_iload_n X.x X.b d_Kd_isUnder_12 rfl (lv_at hl 1 rfl) ?_
                            refine lv_if_lt (tgt := 43) X.x X.b d_Kd_isUnder_13 (by decide) (fun c13 => ?_) (fun c13 => ?_)
                            · refine lv_iconst (v := nI 0) X.x X.b d_Kd_isUnder_43 (by decide) ?_
                              exact q_zret X (by decide) hW ⟨(b2i_f (by simp only [und, anc, List.getD]; simp; omega)).symm, rfl⟩ d_Kd_isUnder_44
                            · exact absurd (by decide) c13
                        · have c26 : 0 = b := (nI_eq (a := 0) (b := b) (by omega) (by omega)).mp c26
                          refine lv_iconst (v := nI 1) X.x X.b d_Kd_isUnder_29 (by decide) ?_
                          exact q_zret X (by decide) hW ⟨(b2i_t (by rw [← c26]; decide)).symm, rfl⟩ d_Kd_isUnder_30
                · have c26 : 2 = b := (nI_eq (a := 2) (b := b) (by omega) (by omega)).mp c26
                  refine lv_iconst (v := nI 1) X.x X.b d_Kd_isUnder_29 (by decide) ?_
                  exact q_zret X (by decide) hW ⟨(b2i_t (by rw [← c26]; decide)).symm, rfl⟩ d_Kd_isUnder_30
        · have c26 : 3 = b := (nI_eq (a := 3) (b := b) (by omega) (by omega)).mp c26
          refine lv_iconst (v := nI 1) X.x X.b d_Kd_isUnder_29 (by decide) ?_
          exact q_zret X (by decide) hW ⟨(b2i_t (by rw [← c26]; decide)).symm, rfl⟩ d_Kd_isUnder_30
set_option maxHeartbeats 1000000 in
set_option maxRecDepth 20000 in
theorem c_Kd_isUnder_4 (l : Launch) (E : QE) (S : QM) (b : Nat) (hb : b ≤ 6) : qCI E l y_Kd_isUnder prog_3_method_2_code 4 .boolean 1 [.int (nI 4), .int (nI b)] S (b2i (und 4 b)) S := by
  refine qCI_of (by decide) (Nat.le_of_ble_eq_true rfl) (fun p e s m below meth c ls X hW hl => ?_)
  have hl : lv_has ls 4 [(0, .int (nI 4)), (1, .int (nI b))] := hl
  refine lv_iload_n X.x X.b d_Kd_isUnder_0 rfl (lv_at hl 0 rfl) ?_
  refine lv_istore_n (lv' := [(2, .int (nI 4)), (0, .int (nI 4)), (1, .int (nI b))]) X.x X.b d_Kd_isUnder_1 rfl hl (by decide) rfl (fun ls hl => ?_)
  refine lv_iconst (v := nI 0) X.x X.b d_Kd_isUnder_2 (by decide) ?_
  refine lv_istore_n (lv' := [(3, .int (nI 0)), (2, .int (nI 4)), (0, .int (nI 4)), (1, .int (nI b))]) X.x X.b d_Kd_isUnder_3 rfl hl (by decide) rfl (fun ls hl => ?_)
  refine lv_iload_n X.x X.b d_Kd_isUnder_4 rfl (lv_at hl 0 rfl) ?_
  refine q_gets X hW X.Z.2.2.2.1 mw_609 d_Kd_isUnder_5 ?_
  refine q_zlen X hW X.Z.2.2.2.1 (v := nI 7) rfl d_Kd_isUnder_8 ?_
  refine lv_icmp_ge (tgt := 43) X.x X.b d_Kd_isUnder_9 (by decide) (fun c9 => ?_) (fun c9 => ?_)
  · exact absurd c9 (by decide)
  · have c9 : ¬ 7 ≤ 0 := fun z => c9 ((nI_leI (a := 7) (b := 0) (by omega) (by omega)).mpr z)
    refine lv_iload_n X.x X.b d_Kd_isUnder_12 rfl (lv_at hl 1 rfl) ?_
    refine lv_if_lt (tgt := 43) X.x X.b d_Kd_isUnder_13 (by decide) (fun c13 => ?_) (fun c13 => ?_)
    · exact absurd c13 (by decide)
    · have c13 : ¬ 4 < 0 := fun z => c13 ((nI_ltI (a := 4) (b := 0) (by omega) (by omega)).mpr z)
      refine lv_iload_n X.x X.b d_Kd_isUnder_16 rfl (lv_at hl 1 rfl) ?_
      refine q_gets X hW X.Z.2.2.2.1 mw_609 d_Kd_isUnder_17 ?_
      refine q_zlen X hW X.Z.2.2.2.1 (v := nI 7) rfl d_Kd_isUnder_20 ?_
      refine lv_icmp_ge (tgt := 43) X.x X.b d_Kd_isUnder_21 (by decide) (fun c21 => ?_) (fun c21 => ?_)
      · exact absurd c21 (by decide)
      · have c21 : ¬ 7 ≤ 4 := fun z => c21 ((nI_leI (a := 7) (b := 4) (by omega) (by omega)).mpr z)
        refine lv_iload_n X.x X.b d_Kd_isUnder_24 rfl (lv_at hl 1 rfl) ?_
        refine lv_iload_n X.x X.b d_Kd_isUnder_25 rfl (lv_at hl 3 rfl) ?_
        refine lv_icmp_ne (tgt := 31) X.x X.b d_Kd_isUnder_26 (by decide) (fun c26 => ?_) (fun c26 => ?_)
        · have c26 : ¬ 4 = b := fun z => c26 ((nI_eq (a := 4) (b := b) (by omega) (by omega)).mpr z)
          refine q_gets X hW X.Z.2.2.2.1 mw_609 d_Kd_isUnder_31 ?_
          refine lv_iload_n X.x X.b d_Kd_isUnder_34 rfl (lv_at hl 1 rfl) ?_
          refine g_zald X hW X.Z.2.2.2.1 (q_in (show 4 < 7 by omega) (by decide)) (q_tn (by omega) (Nat.zero_add _)) d_Kd_isUnder_35 ?_
          rw [show zt3.getD 4 0 = nI 3 from by decide]
          refine lv_istore_n (lv' := [(2, .int (nI 3)), (3, .int (nI 0)), (0, .int (nI 4)), (1, .int (nI b))]) X.x X.b d_Kd_isUnder_36 rfl hl (by decide) rfl (fun ls hl => ?_)
          refine lv_iinc (v := nI 1) (lv' := [(3, .int (nI 1)), (2, .int (nI 3)), (0, .int (nI 4)), (1, .int (nI b))]) X.x X.b d_Kd_isUnder_37 hl (k := 1) rfl (by rw [show Int32.ofInt 1 = nI 1 from by decide, nI_add]) (by decide) rfl (fun ls hl => ?_)
          refine lv_goto (tgt := 4) X.x X.b d_Kd_isUnder_40 (by decide) ?_
          refine lv_iload_n X.x X.b d_Kd_isUnder_4 rfl (lv_at hl 0 rfl) ?_
          refine q_gets X hW X.Z.2.2.2.1 mw_609 d_Kd_isUnder_5 ?_
          refine q_zlen X hW X.Z.2.2.2.1 (v := nI 7) rfl d_Kd_isUnder_8 ?_
          refine lv_icmp_ge (tgt := 43) X.x X.b d_Kd_isUnder_9 (by decide) (fun c9 => ?_) (fun c9 => ?_)
          · exact absurd c9 (by decide)
          · have c9 : ¬ 7 ≤ 1 := fun z => c9 ((nI_leI (a := 7) (b := 1) (by omega) (by omega)).mpr z)
            refine lv_iload_n X.x X.b d_Kd_isUnder_12 rfl (lv_at hl 1 rfl) ?_
            refine lv_if_lt (tgt := 43) X.x X.b d_Kd_isUnder_13 (by decide) (fun c13 => ?_) (fun c13 => ?_)
            · exact absurd c13 (by decide)
            · have c13 : ¬ 3 < 0 := fun z => c13 ((nI_ltI (a := 3) (b := 0) (by omega) (by omega)).mpr z)
              refine lv_iload_n X.x X.b d_Kd_isUnder_16 rfl (lv_at hl 1 rfl) ?_
              refine q_gets X hW X.Z.2.2.2.1 mw_609 d_Kd_isUnder_17 ?_
              refine q_zlen X hW X.Z.2.2.2.1 (v := nI 7) rfl d_Kd_isUnder_20 ?_
              refine lv_icmp_ge (tgt := 43) X.x X.b d_Kd_isUnder_21 (by decide) (fun c21 => ?_) (fun c21 => ?_)
              · exact absurd c21 (by decide)
              · have c21 : ¬ 7 ≤ 3 := fun z => c21 ((nI_leI (a := 7) (b := 3) (by omega) (by omega)).mpr z)
                refine lv_iload_n X.x X.b d_Kd_isUnder_24 rfl (lv_at hl 1 rfl) ?_
                refine lv_iload_n X.x X.b d_Kd_isUnder_25 rfl (lv_at hl 3 rfl) ?_
                refine lv_icmp_ne (tgt := 31) X.x X.b d_Kd_isUnder_26 (by decide) (fun c26 => ?_) (fun c26 => ?_)
                · have c26 : ¬ 3 = b := fun z => c26 ((nI_eq (a := 3) (b := b) (by omega) (by omega)).mpr z)
                  refine q_gets X hW X.Z.2.2.2.1 mw_609 d_Kd_isUnder_31 ?_
                  refine lv_iload_n X.x X.b d_Kd_isUnder_34 rfl (lv_at hl 1 rfl) ?_
                  refine g_zald X hW X.Z.2.2.2.1 (q_in (show 3 < 7 by omega) (by decide)) (q_tn (by omega) (Nat.zero_add _)) d_Kd_isUnder_35 ?_
                  rw [show zt3.getD 3 0 = nI 2 from by decide]
                  refine lv_istore_n (lv' := [(2, .int (nI 2)), (3, .int (nI 1)), (0, .int (nI 4)), (1, .int (nI b))]) X.x X.b d_Kd_isUnder_36 rfl hl (by decide) rfl (fun ls hl => ?_)
                  refine lv_iinc (v := nI 2) (lv' := [(3, .int (nI 2)), (2, .int (nI 2)), (0, .int (nI 4)), (1, .int (nI b))]) X.x X.b d_Kd_isUnder_37 hl (k := 1) rfl (by rw [show Int32.ofInt 1 = nI 1 from by decide, nI_add]) (by decide) rfl (fun ls hl => ?_)
                  refine lv_goto (tgt := 4) X.x X.b d_Kd_isUnder_40 (by decide) ?_
                  refine lv_iload_n X.x X.b d_Kd_isUnder_4 rfl (lv_at hl 0 rfl) ?_
                  refine q_gets X hW X.Z.2.2.2.1 mw_609 d_Kd_isUnder_5 ?_
                  refine q_zlen X hW X.Z.2.2.2.1 (v := nI 7) rfl d_Kd_isUnder_8 ?_
                  refine lv_icmp_ge (tgt := 43) X.x X.b d_Kd_isUnder_9 (by decide) (fun c9 => ?_) (fun c9 => ?_)
                  · exact absurd c9 (by decide)
                  · have c9 : ¬ 7 ≤ 2 := fun z => c9 ((nI_leI (a := 7) (b := 2) (by omega) (by omega)).mpr z)
                    refine lv_iload_n X.x X.b d_Kd_isUnder_12 rfl (lv_at hl 1 rfl) ?_
                    refine lv_if_lt (tgt := 43) X.x X.b d_Kd_isUnder_13 (by decide) (fun c13 => ?_) (fun c13 => ?_)
                    · exact absurd c13 (by decide)
                    · have c13 : ¬ 2 < 0 := fun z => c13 ((nI_ltI (a := 2) (b := 0) (by omega) (by omega)).mpr z)
                      refine lv_iload_n X.x X.b d_Kd_isUnder_16 rfl (lv_at hl 1 rfl) ?_
                      refine q_gets X hW X.Z.2.2.2.1 mw_609 d_Kd_isUnder_17 ?_
                      refine q_zlen X hW X.Z.2.2.2.1 (v := nI 7) rfl d_Kd_isUnder_20 ?_
                      refine lv_icmp_ge (tgt := 43) X.x X.b d_Kd_isUnder_21 (by decide) (fun c21 => ?_) (fun c21 => ?_)
                      · exact absurd c21 (by decide)
                      · have c21 : ¬ 7 ≤ 2 := fun z => c21 ((nI_leI (a := 7) (b := 2) (by omega) (by omega)).mpr z)
                        refine lv_iload_n X.x X.b d_Kd_isUnder_24 rfl (lv_at hl 1 rfl) ?_
                        refine lv_iload_n X.x X.b d_Kd_isUnder_25 rfl (lv_at hl 3 rfl) ?_
                        refine lv_icmp_ne (tgt := 31) X.x X.b d_Kd_isUnder_26 (by decide) (fun c26 => ?_) (fun c26 => ?_)
                        · have c26 : ¬ 2 = b := fun z => c26 ((nI_eq (a := 2) (b := b) (by omega) (by omega)).mpr z)
                          refine q_gets X hW X.Z.2.2.2.1 mw_609 d_Kd_isUnder_31 ?_
                          refine lv_iload_n X.x X.b d_Kd_isUnder_34 rfl (lv_at hl 1 rfl) ?_
                          refine g_zald X hW X.Z.2.2.2.1 (q_in (show 2 < 7 by omega) (by decide)) (q_tn (by omega) (Nat.zero_add _)) d_Kd_isUnder_35 ?_
                          rw [show zt3.getD 2 0 = nI 0 from by decide]
                          refine lv_istore_n (lv' := [(2, .int (nI 0)), (3, .int (nI 2)), (0, .int (nI 4)), (1, .int (nI b))]) X.x X.b d_Kd_isUnder_36 rfl hl (by decide) rfl (fun ls hl => ?_)
                          refine lv_iinc (v := nI 3) (lv' := [(3, .int (nI 3)), (2, .int (nI 0)), (0, .int (nI 4)), (1, .int (nI b))]) X.x X.b d_Kd_isUnder_37 hl (k := 1) rfl (by rw [show Int32.ofInt 1 = nI 1 from by decide, nI_add]) (by decide) rfl (fun ls hl => ?_)
                          refine lv_goto (tgt := 4) X.x X.b d_Kd_isUnder_40 (by decide) ?_
                          refine lv_iload_n X.x X.b d_Kd_isUnder_4 rfl (lv_at hl 0 rfl) ?_
                          refine q_gets X hW X.Z.2.2.2.1 mw_609 d_Kd_isUnder_5 ?_
                          refine q_zlen X hW X.Z.2.2.2.1 (v := nI 7) rfl d_Kd_isUnder_8 ?_
                          refine lv_icmp_ge (tgt := 43) X.x X.b d_Kd_isUnder_9 (by decide) (fun c9 => ?_) (fun c9 => ?_)
                          · exact absurd c9 (by decide)
                          · have c9 : ¬ 7 ≤ 3 := fun z => c9 ((nI_leI (a := 7) (b := 3) (by omega) (by omega)).mpr z)
                            refine lv_iload_n X.x X.b d_Kd_isUnder_12 rfl (lv_at hl 1 rfl) ?_
                            refine lv_if_lt (tgt := 43) X.x X.b d_Kd_isUnder_13 (by decide) (fun c13 => ?_) (fun c13 => ?_)
                            · exact absurd c13 (by decide)
                            · have c13 : ¬ 0 < 0 := fun z => c13 ((nI_ltI (a := 0) (b := 0) (by omega) (by omega)).mpr z)
                              refine lv_iload_n X.x X.b d_Kd_isUnder_16 rfl (lv_at hl 1 rfl) ?_
                              refine q_gets X hW X.Z.2.2.2.1 mw_609 d_Kd_isUnder_17 ?_
                              refine q_zlen X hW X.Z.2.2.2.1 (v := nI 7) rfl d_Kd_isUnder_20 ?_
                              refine lv_icmp_ge (tgt := 43) X.x X.b d_Kd_isUnder_21 (by decide) (fun c21 => ?_) (fun c21 => ?_)
                              · exact absurd c21 (by decide)
                              · have c21 : ¬ 7 ≤ 0 := fun z => c21 ((nI_leI (a := 7) (b := 0) (by omega) (by omega)).mpr z)
                                refine lv_iload_n X.x X.b d_Kd_isUnder_24 rfl (lv_at hl 1 rfl) ?_
                                refine lv_iload_n X.x X.b d_Kd_isUnder_25 rfl (lv_at hl 3 rfl) ?_
                                refine lv_icmp_ne (tgt := 31) X.x X.b d_Kd_isUnder_26 (by decide) (fun c26 => ?_) (fun c26 => ?_)
                                · have c26 : ¬ 0 = b := fun z => c26 ((nI_eq (a := 0) (b := b) (by omega) (by omega)).mpr z)
                                  refine q_gets X hW X.Z.2.2.2.1 mw_609 d_Kd_isUnder_31 ?_
                                  refine lv_iload_n X.x X.b d_Kd_isUnder_34 rfl (lv_at hl 1 rfl) ?_
                                  refine g_zald X hW X.Z.2.2.2.1 (q_in (show 0 < 7 by omega) (by decide)) (q_tn (by omega) (Nat.zero_add _)) d_Kd_isUnder_35 ?_
                                  rw [show zt3.getD 0 0 = (-1) from by decide]
                                  refine lv_istore_n (lv' := [(2, .int (-1)), (3, .int (nI 3)), (0, .int (nI 4)), (1, .int (nI b))]) X.x X.b d_Kd_isUnder_36 rfl hl (by decide) rfl (fun ls hl => ?_)
                                  refine lv_iinc (v := nI 4) (lv' := [(3, .int (nI 4)), (2, .int (-1)), (0, .int (nI 4)), (1, .int (nI b))]) X.x X.b d_Kd_isUnder_37 hl (k := 1) rfl (by rw [show Int32.ofInt 1 = nI 1 from by decide, nI_add]) (by decide) rfl (fun ls hl => ?_)
                                  refine lv_goto (tgt := 4) X.x X.b d_Kd_isUnder_40 (by decide) ?_
                                  refine lv_iload_n X.x X.b d_Kd_isUnder_4 rfl (lv_at hl 0 rfl) ?_
                                  refine q_gets X hW X.Z.2.2.2.1 mw_609 d_Kd_isUnder_5 ?_
                                  refine q_zlen X hW X.Z.2.2.2.1 (v := nI 7) rfl d_Kd_isUnder_8 ?_
                                  refine lv_icmp_ge (tgt := 43) X.x X.b d_Kd_isUnder_9 (by decide) (fun c9 => ?_) (fun c9 => ?_)
                                  · exact absurd c9 (by decide)
                                  · have c9 : ¬ 7 ≤ 4 := fun z => c9 ((nI_leI (a := 7) (b := 4) (by omega) (by omega)).mpr z)
                                    refine lv_iload_n X.x X.b d_Kd_isUnder_12 rfl (lv_at hl 1 rfl) ?_
                                    refine lv_if_lt (tgt := 43) X.x X.b d_Kd_isUnder_13 (by decide) (fun c13 => ?_) (fun c13 => ?_)
                                    · refine lv_iconst (v := nI 0) X.x X.b d_Kd_isUnder_43 (by decide) ?_
                                      exact q_zret X (by decide) hW ⟨(b2i_f (by simp only [und, anc, List.getD]; simp; omega)).symm, rfl⟩ d_Kd_isUnder_44
                                    · exact absurd (by decide) c13
                                · have c26 : 0 = b := (nI_eq (a := 0) (b := b) (by omega) (by omega)).mp c26
                                  refine lv_iconst (v := nI 1) X.x X.b d_Kd_isUnder_29 (by decide) ?_
                                  exact q_zret X (by decide) hW ⟨(b2i_t (by rw [← c26]; decide)).symm, rfl⟩ d_Kd_isUnder_30
                        · have c26 : 2 = b := (nI_eq (a := 2) (b := b) (by omega) (by omega)).mp c26
                          refine lv_iconst (v := nI 1) X.x X.b d_Kd_isUnder_29 (by decide) ?_
                          exact q_zret X (by decide) hW ⟨(b2i_t (by rw [← c26]; decide)).symm, rfl⟩ d_Kd_isUnder_30
                · have c26 : 3 = b := (nI_eq (a := 3) (b := b) (by omega) (by omega)).mp c26
                  refine lv_iconst (v := nI 1) X.x X.b d_Kd_isUnder_29 (by decide) ?_
                  exact q_zret X (by decide) hW ⟨(b2i_t (by rw [← c26]; decide)).symm, rfl⟩ d_Kd_isUnder_30
        · have c26 : 4 = b := (nI_eq (a := 4) (b := b) (by omega) (by omega)).mp c26
          refine lv_iconst (v := nI 1) X.x X.b d_Kd_isUnder_29 (by decide) ?_
          exact q_zret X (by decide) hW ⟨(b2i_t (by rw [← c26]; decide)).symm, rfl⟩ d_Kd_isUnder_30
set_option maxHeartbeats 1000000 in
set_option maxRecDepth 20000 in
theorem c_Kd_isUnder_5 (l : Launch) (E : QE) (S : QM) (b : Nat) (hb : b ≤ 6) : qCI E l y_Kd_isUnder prog_3_method_2_code 4 .boolean 1 [.int (nI 5), .int (nI b)] S (b2i (und 5 b)) S := by
  refine qCI_of (by decide) (Nat.le_of_ble_eq_true rfl) (fun p e s m below meth c ls X hW hl => ?_)
  have hl : lv_has ls 4 [(0, .int (nI 5)), (1, .int (nI b))] := hl
  refine lv_iload_n X.x X.b d_Kd_isUnder_0 rfl (lv_at hl 0 rfl) ?_
  refine lv_istore_n (lv' := [(2, .int (nI 5)), (0, .int (nI 5)), (1, .int (nI b))]) X.x X.b d_Kd_isUnder_1 rfl hl (by decide) rfl (fun ls hl => ?_)
  refine lv_iconst (v := nI 0) X.x X.b d_Kd_isUnder_2 (by decide) ?_
  refine lv_istore_n (lv' := [(3, .int (nI 0)), (2, .int (nI 5)), (0, .int (nI 5)), (1, .int (nI b))]) X.x X.b d_Kd_isUnder_3 rfl hl (by decide) rfl (fun ls hl => ?_)
  refine lv_iload_n X.x X.b d_Kd_isUnder_4 rfl (lv_at hl 0 rfl) ?_
  refine q_gets X hW X.Z.2.2.2.1 mw_609 d_Kd_isUnder_5 ?_
  refine q_zlen X hW X.Z.2.2.2.1 (v := nI 7) rfl d_Kd_isUnder_8 ?_
  refine lv_icmp_ge (tgt := 43) X.x X.b d_Kd_isUnder_9 (by decide) (fun c9 => ?_) (fun c9 => ?_)
  · exact absurd c9 (by decide)
  · have c9 : ¬ 7 ≤ 0 := fun z => c9 ((nI_leI (a := 7) (b := 0) (by omega) (by omega)).mpr z)
    refine lv_iload_n X.x X.b d_Kd_isUnder_12 rfl (lv_at hl 1 rfl) ?_
    refine lv_if_lt (tgt := 43) X.x X.b d_Kd_isUnder_13 (by decide) (fun c13 => ?_) (fun c13 => ?_)
    · exact absurd c13 (by decide)
    · have c13 : ¬ 5 < 0 := fun z => c13 ((nI_ltI (a := 5) (b := 0) (by omega) (by omega)).mpr z)
      refine lv_iload_n X.x X.b d_Kd_isUnder_16 rfl (lv_at hl 1 rfl) ?_
      refine q_gets X hW X.Z.2.2.2.1 mw_609 d_Kd_isUnder_17 ?_
      refine q_zlen X hW X.Z.2.2.2.1 (v := nI 7) rfl d_Kd_isUnder_20 ?_
      refine lv_icmp_ge (tgt := 43) X.x X.b d_Kd_isUnder_21 (by decide) (fun c21 => ?_) (fun c21 => ?_)
      · exact absurd c21 (by decide)
      · have c21 : ¬ 7 ≤ 5 := fun z => c21 ((nI_leI (a := 7) (b := 5) (by omega) (by omega)).mpr z)
        refine lv_iload_n X.x X.b d_Kd_isUnder_24 rfl (lv_at hl 1 rfl) ?_
        refine lv_iload_n X.x X.b d_Kd_isUnder_25 rfl (lv_at hl 3 rfl) ?_
        refine lv_icmp_ne (tgt := 31) X.x X.b d_Kd_isUnder_26 (by decide) (fun c26 => ?_) (fun c26 => ?_)
        · have c26 : ¬ 5 = b := fun z => c26 ((nI_eq (a := 5) (b := b) (by omega) (by omega)).mpr z)
          refine q_gets X hW X.Z.2.2.2.1 mw_609 d_Kd_isUnder_31 ?_
          refine lv_iload_n X.x X.b d_Kd_isUnder_34 rfl (lv_at hl 1 rfl) ?_
          refine g_zald X hW X.Z.2.2.2.1 (q_in (show 5 < 7 by omega) (by decide)) (q_tn (by omega) (Nat.zero_add _)) d_Kd_isUnder_35 ?_
          rw [show zt3.getD 5 0 = nI 0 from by decide]
          refine lv_istore_n (lv' := [(2, .int (nI 0)), (3, .int (nI 0)), (0, .int (nI 5)), (1, .int (nI b))]) X.x X.b d_Kd_isUnder_36 rfl hl (by decide) rfl (fun ls hl => ?_)
          refine lv_iinc (v := nI 1) (lv' := [(3, .int (nI 1)), (2, .int (nI 0)), (0, .int (nI 5)), (1, .int (nI b))]) X.x X.b d_Kd_isUnder_37 hl (k := 1) rfl (by rw [show Int32.ofInt 1 = nI 1 from by decide, nI_add]) (by decide) rfl (fun ls hl => ?_)
          refine lv_goto (tgt := 4) X.x X.b d_Kd_isUnder_40 (by decide) ?_
          refine lv_iload_n X.x X.b d_Kd_isUnder_4 rfl (lv_at hl 0 rfl) ?_
          refine q_gets X hW X.Z.2.2.2.1 mw_609 d_Kd_isUnder_5 ?_
          refine q_zlen X hW X.Z.2.2.2.1 (v := nI 7) rfl d_Kd_isUnder_8 ?_
          refine lv_icmp_ge (tgt := 43) X.x X.b d_Kd_isUnder_9 (by decide) (fun c9 => ?_) (fun c9 => ?_)
          · exact absurd c9 (by decide)
          · have c9 : ¬ 7 ≤ 1 := fun z => c9 ((nI_leI (a := 7) (b := 1) (by omega) (by omega)).mpr z)
            refine lv_iload_n X.x X.b d_Kd_isUnder_12 rfl (lv_at hl 1 rfl) ?_
            refine lv_if_lt (tgt := 43) X.x X.b d_Kd_isUnder_13 (by decide) (fun c13 => ?_) (fun c13 => ?_)
            · exact absurd c13 (by decide)
            · have c13 : ¬ 0 < 0 := fun z => c13 ((nI_ltI (a := 0) (b := 0) (by omega) (by omega)).mpr z)
              refine lv_iload_n X.x X.b d_Kd_isUnder_16 rfl (lv_at hl 1 rfl) ?_
              refine q_gets X hW X.Z.2.2.2.1 mw_609 d_Kd_isUnder_17 ?_
              refine q_zlen X hW X.Z.2.2.2.1 (v := nI 7) rfl d_Kd_isUnder_20 ?_
              refine lv_icmp_ge (tgt := 43) X.x X.b d_Kd_isUnder_21 (by decide) (fun c21 => ?_) (fun c21 => ?_)
              · exact absurd c21 (by decide)
              · have c21 : ¬ 7 ≤ 0 := fun z => c21 ((nI_leI (a := 7) (b := 0) (by omega) (by omega)).mpr z)
                refine lv_iload_n X.x X.b d_Kd_isUnder_24 rfl (lv_at hl 1 rfl) ?_
                refine lv_iload_n X.x X.b d_Kd_isUnder_25 rfl (lv_at hl 3 rfl) ?_
                refine lv_icmp_ne (tgt := 31) X.x X.b d_Kd_isUnder_26 (by decide) (fun c26 => ?_) (fun c26 => ?_)
                · have c26 : ¬ 0 = b := fun z => c26 ((nI_eq (a := 0) (b := b) (by omega) (by omega)).mpr z)
                  refine q_gets X hW X.Z.2.2.2.1 mw_609 d_Kd_isUnder_31 ?_
                  refine lv_iload_n X.x X.b d_Kd_isUnder_34 rfl (lv_at hl 1 rfl) ?_
                  refine g_zald X hW X.Z.2.2.2.1 (q_in (show 0 < 7 by omega) (by decide)) (q_tn (by omega) (Nat.zero_add _)) d_Kd_isUnder_35 ?_
                  rw [show zt3.getD 0 0 = (-1) from by decide]
                  refine lv_istore_n (lv' := [(2, .int (-1)), (3, .int (nI 1)), (0, .int (nI 5)), (1, .int (nI b))]) X.x X.b d_Kd_isUnder_36 rfl hl (by decide) rfl (fun ls hl => ?_)
                  refine lv_iinc (v := nI 2) (lv' := [(3, .int (nI 2)), (2, .int (-1)), (0, .int (nI 5)), (1, .int (nI b))]) X.x X.b d_Kd_isUnder_37 hl (k := 1) rfl (by rw [show Int32.ofInt 1 = nI 1 from by decide, nI_add]) (by decide) rfl (fun ls hl => ?_)
                  refine lv_goto (tgt := 4) X.x X.b d_Kd_isUnder_40 (by decide) ?_
                  refine lv_iload_n X.x X.b d_Kd_isUnder_4 rfl (lv_at hl 0 rfl) ?_
                  refine q_gets X hW X.Z.2.2.2.1 mw_609 d_Kd_isUnder_5 ?_
                  refine q_zlen X hW X.Z.2.2.2.1 (v := nI 7) rfl d_Kd_isUnder_8 ?_
                  refine lv_icmp_ge (tgt := 43) X.x X.b d_Kd_isUnder_9 (by decide) (fun c9 => ?_) (fun c9 => ?_)
                  · exact absurd c9 (by decide)
                  · have c9 : ¬ 7 ≤ 2 := fun z => c9 ((nI_leI (a := 7) (b := 2) (by omega) (by omega)).mpr z)
                    refine lv_iload_n X.x X.b d_Kd_isUnder_12 rfl (lv_at hl 1 rfl) ?_
                    refine lv_if_lt (tgt := 43) X.x X.b d_Kd_isUnder_13 (by decide) (fun c13 => ?_) (fun c13 => ?_)
                    · refine lv_iconst (v := nI 0) X.x X.b d_Kd_isUnder_43 (by decide) ?_
                      exact q_zret X (by decide) hW ⟨(b2i_f (by simp only [und, anc, List.getD]; simp; omega)).symm, rfl⟩ d_Kd_isUnder_44
                    · exact absurd (by decide) c13
                · have c26 : 0 = b := (nI_eq (a := 0) (b := b) (by omega) (by omega)).mp c26
                  refine lv_iconst (v := nI 1) X.x X.b d_Kd_isUnder_29 (by decide) ?_
                  exact q_zret X (by decide) hW ⟨(b2i_t (by rw [← c26]; decide)).symm, rfl⟩ d_Kd_isUnder_30
        · have c26 : 5 = b := (nI_eq (a := 5) (b := b) (by omega) (by omega)).mp c26
          refine lv_iconst (v := nI 1) X.x X.b d_Kd_isUnder_29 (by decide) ?_
          exact q_zret X (by decide) hW ⟨(b2i_t (by rw [← c26]; decide)).symm, rfl⟩ d_Kd_isUnder_30
set_option maxHeartbeats 1000000 in
set_option maxRecDepth 20000 in
theorem c_Kd_isUnder_6 (l : Launch) (E : QE) (S : QM) (b : Nat) (hb : b ≤ 6) : qCI E l y_Kd_isUnder prog_3_method_2_code 4 .boolean 1 [.int (nI 6), .int (nI b)] S (b2i (und 6 b)) S := by
  refine qCI_of (by decide) (Nat.le_of_ble_eq_true rfl) (fun p e s m below meth c ls X hW hl => ?_)
  have hl : lv_has ls 4 [(0, .int (nI 6)), (1, .int (nI b))] := hl
  refine lv_iload_n X.x X.b d_Kd_isUnder_0 rfl (lv_at hl 0 rfl) ?_
  refine lv_istore_n (lv' := [(2, .int (nI 6)), (0, .int (nI 6)), (1, .int (nI b))]) X.x X.b d_Kd_isUnder_1 rfl hl (by decide) rfl (fun ls hl => ?_)
  refine lv_iconst (v := nI 0) X.x X.b d_Kd_isUnder_2 (by decide) ?_
  refine lv_istore_n (lv' := [(3, .int (nI 0)), (2, .int (nI 6)), (0, .int (nI 6)), (1, .int (nI b))]) X.x X.b d_Kd_isUnder_3 rfl hl (by decide) rfl (fun ls hl => ?_)
  refine lv_iload_n X.x X.b d_Kd_isUnder_4 rfl (lv_at hl 0 rfl) ?_
  refine q_gets X hW X.Z.2.2.2.1 mw_609 d_Kd_isUnder_5 ?_
  refine q_zlen X hW X.Z.2.2.2.1 (v := nI 7) rfl d_Kd_isUnder_8 ?_
  refine lv_icmp_ge (tgt := 43) X.x X.b d_Kd_isUnder_9 (by decide) (fun c9 => ?_) (fun c9 => ?_)
  · exact absurd c9 (by decide)
  · have c9 : ¬ 7 ≤ 0 := fun z => c9 ((nI_leI (a := 7) (b := 0) (by omega) (by omega)).mpr z)
    refine lv_iload_n X.x X.b d_Kd_isUnder_12 rfl (lv_at hl 1 rfl) ?_
    refine lv_if_lt (tgt := 43) X.x X.b d_Kd_isUnder_13 (by decide) (fun c13 => ?_) (fun c13 => ?_)
    · exact absurd c13 (by decide)
    · have c13 : ¬ 6 < 0 := fun z => c13 ((nI_ltI (a := 6) (b := 0) (by omega) (by omega)).mpr z)
      refine lv_iload_n X.x X.b d_Kd_isUnder_16 rfl (lv_at hl 1 rfl) ?_
      refine q_gets X hW X.Z.2.2.2.1 mw_609 d_Kd_isUnder_17 ?_
      refine q_zlen X hW X.Z.2.2.2.1 (v := nI 7) rfl d_Kd_isUnder_20 ?_
      refine lv_icmp_ge (tgt := 43) X.x X.b d_Kd_isUnder_21 (by decide) (fun c21 => ?_) (fun c21 => ?_)
      · exact absurd c21 (by decide)
      · have c21 : ¬ 7 ≤ 6 := fun z => c21 ((nI_leI (a := 7) (b := 6) (by omega) (by omega)).mpr z)
        refine lv_iload_n X.x X.b d_Kd_isUnder_24 rfl (lv_at hl 1 rfl) ?_
        refine lv_iload_n X.x X.b d_Kd_isUnder_25 rfl (lv_at hl 3 rfl) ?_
        refine lv_icmp_ne (tgt := 31) X.x X.b d_Kd_isUnder_26 (by decide) (fun c26 => ?_) (fun c26 => ?_)
        · have c26 : ¬ 6 = b := fun z => c26 ((nI_eq (a := 6) (b := b) (by omega) (by omega)).mpr z)
          refine q_gets X hW X.Z.2.2.2.1 mw_609 d_Kd_isUnder_31 ?_
          refine lv_iload_n X.x X.b d_Kd_isUnder_34 rfl (lv_at hl 1 rfl) ?_
          refine g_zald X hW X.Z.2.2.2.1 (q_in (show 6 < 7 by omega) (by decide)) (q_tn (by omega) (Nat.zero_add _)) d_Kd_isUnder_35 ?_
          rw [show zt3.getD 6 0 = nI 1 from by decide]
          refine lv_istore_n (lv' := [(2, .int (nI 1)), (3, .int (nI 0)), (0, .int (nI 6)), (1, .int (nI b))]) X.x X.b d_Kd_isUnder_36 rfl hl (by decide) rfl (fun ls hl => ?_)
          refine lv_iinc (v := nI 1) (lv' := [(3, .int (nI 1)), (2, .int (nI 1)), (0, .int (nI 6)), (1, .int (nI b))]) X.x X.b d_Kd_isUnder_37 hl (k := 1) rfl (by rw [show Int32.ofInt 1 = nI 1 from by decide, nI_add]) (by decide) rfl (fun ls hl => ?_)
          refine lv_goto (tgt := 4) X.x X.b d_Kd_isUnder_40 (by decide) ?_
          refine lv_iload_n X.x X.b d_Kd_isUnder_4 rfl (lv_at hl 0 rfl) ?_
          refine q_gets X hW X.Z.2.2.2.1 mw_609 d_Kd_isUnder_5 ?_
          refine q_zlen X hW X.Z.2.2.2.1 (v := nI 7) rfl d_Kd_isUnder_8 ?_
          refine lv_icmp_ge (tgt := 43) X.x X.b d_Kd_isUnder_9 (by decide) (fun c9 => ?_) (fun c9 => ?_)
          · exact absurd c9 (by decide)
          · have c9 : ¬ 7 ≤ 1 := fun z => c9 ((nI_leI (a := 7) (b := 1) (by omega) (by omega)).mpr z)
            refine lv_iload_n X.x X.b d_Kd_isUnder_12 rfl (lv_at hl 1 rfl) ?_
            refine lv_if_lt (tgt := 43) X.x X.b d_Kd_isUnder_13 (by decide) (fun c13 => ?_) (fun c13 => ?_)
            · exact absurd c13 (by decide)
            · have c13 : ¬ 1 < 0 := fun z => c13 ((nI_ltI (a := 1) (b := 0) (by omega) (by omega)).mpr z)
              refine lv_iload_n X.x X.b d_Kd_isUnder_16 rfl (lv_at hl 1 rfl) ?_
              refine q_gets X hW X.Z.2.2.2.1 mw_609 d_Kd_isUnder_17 ?_
              refine q_zlen X hW X.Z.2.2.2.1 (v := nI 7) rfl d_Kd_isUnder_20 ?_
              refine lv_icmp_ge (tgt := 43) X.x X.b d_Kd_isUnder_21 (by decide) (fun c21 => ?_) (fun c21 => ?_)
              · exact absurd c21 (by decide)
              · have c21 : ¬ 7 ≤ 1 := fun z => c21 ((nI_leI (a := 7) (b := 1) (by omega) (by omega)).mpr z)
                refine lv_iload_n X.x X.b d_Kd_isUnder_24 rfl (lv_at hl 1 rfl) ?_
                refine lv_iload_n X.x X.b d_Kd_isUnder_25 rfl (lv_at hl 3 rfl) ?_
                refine lv_icmp_ne (tgt := 31) X.x X.b d_Kd_isUnder_26 (by decide) (fun c26 => ?_) (fun c26 => ?_)
                · have c26 : ¬ 1 = b := fun z => c26 ((nI_eq (a := 1) (b := b) (by omega) (by omega)).mpr z)
                  refine q_gets X hW X.Z.2.2.2.1 mw_609 d_Kd_isUnder_31 ?_
                  refine lv_iload_n X.x X.b d_Kd_isUnder_34 rfl (lv_at hl 1 rfl) ?_
                  refine g_zald X hW X.Z.2.2.2.1 (q_in (show 1 < 7 by omega) (by decide)) (q_tn (by omega) (Nat.zero_add _)) d_Kd_isUnder_35 ?_
                  rw [show zt3.getD 1 0 = nI 0 from by decide]
                  refine lv_istore_n (lv' := [(2, .int (nI 0)), (3, .int (nI 1)), (0, .int (nI 6)), (1, .int (nI b))]) X.x X.b d_Kd_isUnder_36 rfl hl (by decide) rfl (fun ls hl => ?_)
                  refine lv_iinc (v := nI 2) (lv' := [(3, .int (nI 2)), (2, .int (nI 0)), (0, .int (nI 6)), (1, .int (nI b))]) X.x X.b d_Kd_isUnder_37 hl (k := 1) rfl (by rw [show Int32.ofInt 1 = nI 1 from by decide, nI_add]) (by decide) rfl (fun ls hl => ?_)
                  refine lv_goto (tgt := 4) X.x X.b d_Kd_isUnder_40 (by decide) ?_
                  refine lv_iload_n X.x X.b d_Kd_isUnder_4 rfl (lv_at hl 0 rfl) ?_
                  refine q_gets X hW X.Z.2.2.2.1 mw_609 d_Kd_isUnder_5 ?_
                  refine q_zlen X hW X.Z.2.2.2.1 (v := nI 7) rfl d_Kd_isUnder_8 ?_
                  refine lv_icmp_ge (tgt := 43) X.x X.b d_Kd_isUnder_9 (by decide) (fun c9 => ?_) (fun c9 => ?_)
                  · exact absurd c9 (by decide)
                  · have c9 : ¬ 7 ≤ 2 := fun z => c9 ((nI_leI (a := 7) (b := 2) (by omega) (by omega)).mpr z)
                    refine lv_iload_n X.x X.b d_Kd_isUnder_12 rfl (lv_at hl 1 rfl) ?_
                    refine lv_if_lt (tgt := 43) X.x X.b d_Kd_isUnder_13 (by decide) (fun c13 => ?_) (fun c13 => ?_)
                    · exact absurd c13 (by decide)
                    · have c13 : ¬ 0 < 0 := fun z => c13 ((nI_ltI (a := 0) (b := 0) (by omega) (by omega)).mpr z)
                      refine lv_iload_n X.x X.b d_Kd_isUnder_16 rfl (lv_at hl 1 rfl) ?_
                      refine q_gets X hW X.Z.2.2.2.1 mw_609 d_Kd_isUnder_17 ?_
                      refine q_zlen X hW X.Z.2.2.2.1 (v := nI 7) rfl d_Kd_isUnder_20 ?_
                      refine lv_icmp_ge (tgt := 43) X.x X.b d_Kd_isUnder_21 (by decide) (fun c21 => ?_) (fun c21 => ?_)
                      · exact absurd c21 (by decide)
                      · have c21 : ¬ 7 ≤ 0 := fun z => c21 ((nI_leI (a := 7) (b := 0) (by omega) (by omega)).mpr z)
                        refine lv_iload_n X.x X.b d_Kd_isUnder_24 rfl (lv_at hl 1 rfl) ?_
                        refine lv_iload_n X.x X.b d_Kd_isUnder_25 rfl (lv_at hl 3 rfl) ?_
                        refine lv_icmp_ne (tgt := 31) X.x X.b d_Kd_isUnder_26 (by decide) (fun c26 => ?_) (fun c26 => ?_)
                        · have c26 : ¬ 0 = b := fun z => c26 ((nI_eq (a := 0) (b := b) (by omega) (by omega)).mpr z)
                          refine q_gets X hW X.Z.2.2.2.1 mw_609 d_Kd_isUnder_31 ?_
                          refine lv_iload_n X.x X.b d_Kd_isUnder_34 rfl (lv_at hl 1 rfl) ?_
                          refine g_zald X hW X.Z.2.2.2.1 (q_in (show 0 < 7 by omega) (by decide)) (q_tn (by omega) (Nat.zero_add _)) d_Kd_isUnder_35 ?_
                          rw [show zt3.getD 0 0 = (-1) from by decide]
                          refine lv_istore_n (lv' := [(2, .int (-1)), (3, .int (nI 2)), (0, .int (nI 6)), (1, .int (nI b))]) X.x X.b d_Kd_isUnder_36 rfl hl (by decide) rfl (fun ls hl => ?_)
                          refine lv_iinc (v := nI 3) (lv' := [(3, .int (nI 3)), (2, .int (-1)), (0, .int (nI 6)), (1, .int (nI b))]) X.x X.b d_Kd_isUnder_37 hl (k := 1) rfl (by rw [show Int32.ofInt 1 = nI 1 from by decide, nI_add]) (by decide) rfl (fun ls hl => ?_)
                          refine lv_goto (tgt := 4) X.x X.b d_Kd_isUnder_40 (by decide) ?_
                          refine lv_iload_n X.x X.b d_Kd_isUnder_4 rfl (lv_at hl 0 rfl) ?_
                          refine q_gets X hW X.Z.2.2.2.1 mw_609 d_Kd_isUnder_5 ?_
                          refine q_zlen X hW X.Z.2.2.2.1 (v := nI 7) rfl d_Kd_isUnder_8 ?_
                          refine lv_icmp_ge (tgt := 43) X.x X.b d_Kd_isUnder_9 (by decide) (fun c9 => ?_) (fun c9 => ?_)
                          · exact absurd c9 (by decide)
                          · have c9 : ¬ 7 ≤ 3 := fun z => c9 ((nI_leI (a := 7) (b := 3) (by omega) (by omega)).mpr z)
                            refine lv_iload_n X.x X.b d_Kd_isUnder_12 rfl (lv_at hl 1 rfl) ?_
                            refine lv_if_lt (tgt := 43) X.x X.b d_Kd_isUnder_13 (by decide) (fun c13 => ?_) (fun c13 => ?_)
                            · refine lv_iconst (v := nI 0) X.x X.b d_Kd_isUnder_43 (by decide) ?_
                              exact q_zret X (by decide) hW ⟨(b2i_f (by simp only [und, anc, List.getD]; simp; omega)).symm, rfl⟩ d_Kd_isUnder_44
                            · exact absurd (by decide) c13
                        · have c26 : 0 = b := (nI_eq (a := 0) (b := b) (by omega) (by omega)).mp c26
                          refine lv_iconst (v := nI 1) X.x X.b d_Kd_isUnder_29 (by decide) ?_
                          exact q_zret X (by decide) hW ⟨(b2i_t (by rw [← c26]; decide)).symm, rfl⟩ d_Kd_isUnder_30
                · have c26 : 1 = b := (nI_eq (a := 1) (b := b) (by omega) (by omega)).mp c26
                  refine lv_iconst (v := nI 1) X.x X.b d_Kd_isUnder_29 (by decide) ?_
                  exact q_zret X (by decide) hW ⟨(b2i_t (by rw [← c26]; decide)).symm, rfl⟩ d_Kd_isUnder_30
        · have c26 : 6 = b := (nI_eq (a := 6) (b := b) (by omega) (by omega)).mp c26
          refine lv_iconst (v := nI 1) X.x X.b d_Kd_isUnder_29 (by decide) ?_
          exact q_zret X (by decide) hW ⟨(b2i_t (by rw [← c26]; decide)).symm, rfl⟩ d_Kd_isUnder_30
theorem c_Kd_isUnder (l : Launch) (E : QE) (S : QM) (j b : Nat) (hj : j ≤ 6) (hb : b ≤ 6) : qCI E l y_Kd_isUnder prog_3_method_2_code 4 .boolean 1 [.int (nI j), .int (nI b)] S (b2i (und j b)) S := by
  rcases (show j = 0 ∨ j = 1 ∨ j = 2 ∨ j = 3 ∨ j = 4 ∨ j = 5 ∨ j = 6 by omega) with rfl | rfl | rfl | rfl | rfl | rfl | rfl
  · exact c_Kd_isUnder_0 l E S b hb
  · exact c_Kd_isUnder_1 l E S b hb
  · exact c_Kd_isUnder_2 l E S b hb
  · exact c_Kd_isUnder_3 l E S b hb
  · exact c_Kd_isUnder_4 l E S b hb
  · exact c_Kd_isUnder_5 l E S b hb
  · exact c_Kd_isUnder_6 l E S b hb
