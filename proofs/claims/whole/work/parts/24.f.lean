theorem op_hold (E : QE) (l : Launch) : qH_hold E l qJ := by
  intro S hJ a1 a2
  by_cases h : inR 0 9 a1 ∧ (a2 = -1 ∨ isT (S 0) a2)
  · obtain ⟨i, -, hi, rfl⟩ := inR_n (by decide) h.1
    rcases h.2 with h0 | h0
    · subst h0
      refine qOp_xx (c_X_hold_m l E S (S 0) (S 14) rfl rfl hJ.w0 i hi) (c_R_hold_m l E _ (S 16) (by rfl) hJ.w16 i hi) ?_ (by decide) (by decide)
      exact J_row hJ (WF_sp hJ.w0 (by omega) (Or.inl rfl)) (WF_sp hJ.w16 (by omega) (Or.inl rfl)) (hJ.e.up _ (by omega) (by omega))
    · obtain ⟨t, ht, rfl⟩ := isT_n hJ.w0 h0
      have ht2 : t < nT (S 16) := by rw [← hJ.e.nT]; exact ht
      refine qOp_xx (c_X_hold_g l E S (S 0) (S 14) rfl rfl hJ.w0 i t hi ht) (c_R_hold_g l E _ (S 16) (by rfl) hJ.w16 i t hi ht2) ?_ (by decide) (by decide)
      exact J_row hJ (WF_sp hJ.w0 (by omega) (Or.inr ⟨t, ht, rfl⟩)) (WF_sp hJ.w16 (by omega) (Or.inr ⟨t, ht2, rfl⟩)) (hJ.e.up _ (by omega) (by omega))
  · exact qOp_xx (c_X_hold_b l E S (S 0) (S 14) rfl rfl hJ.w0 _ _ h) (c_R_hold_b l E _ (S 16) (by rfl) hJ.w16 (S 19) (by rfl) _ _ (fun z => h ⟨z.1, z.2.imp_right (fun y => (isT_e hJ.e).mpr y)⟩)) (J_fn hJ 0 (by decide)) (by decide) (by decide)
theorem op_as (E : QE) (l : Launch) : qH_as E l qJ := by
  intro S hJ a1 a2
  by_cases h : inR 0 9 a1 ∧ inR 0 6 a2
  · obtain ⟨i, -, hi, rfl⟩ := inR_n (by decide) h.1
    obtain ⟨k, -, hk, rfl⟩ := inR_n (by decide) h.2
    have e := hJ.e.1 (10 + i) (by omega)
    rcases hJ.w0.sp (i := i) (by omega) with hs | ⟨q, hq, hs⟩
    · exact qOp_xx (c_X_as_m l E S (S 0) (S 14) rfl rfl hJ.w0 i k hi hk hs) (c_R_as_m l E _ (S 16) (by rfl) hJ.w16 (S 19) (by rfl) i k hi hk (by rw [← e]; exact hs)) (J_fn hJ 5 (by decide)) (by decide) (by decide)
    · obtain ⟨kd, hkd, hkq⟩ := hJ.w0.tk hq
      have hq2 : q < nT (S 16) := by rw [← hJ.e.nT]; exact hq
      have eq := hJ.e.2.1 q 0 hq (by omega)
      rw [Nat.add_zero] at eq
      by_cases hu : und kd k
      · exact qOp_xx (c_X_as_g l E S (S 0) (S 14) rfl rfl hJ.w0 i k q hi hk hq hs kd hkd hkq hu) (c_R_as_g l E _ (S 16) (by rfl) hJ.w16 i k q hi hk hq2 (by rw [← e]; exact hs) kd hkd (by rw [← eq]; exact hkq) hu) hJ (by decide) (by decide)
      · exact qOp_xx (c_X_as_k l E S (S 0) (S 14) rfl rfl hJ.w0 i k q hi hk hq hs kd hkd hkq hu) (c_R_as_k l E _ (S 16) (by rfl) hJ.w16 (S 19) (by rfl) i k q hi hk hq2 (by rw [← e]; exact hs) kd hkd (by rw [← eq]; exact hkq) hu) (J_fn hJ 2 (by decide)) (by decide) (by decide)
  · exact qOp_xx (c_X_as_b l E S (S 0) (S 14) rfl rfl hJ.w0 _ _ h) (c_R_as_b l E _ (S 16) (by rfl) hJ.w16 (S 19) (by rfl) _ _ h) (J_fn hJ 0 (by decide)) (by decide) (by decide)
theorem op_count (E : QE) (l : Launch) : qH_count E l qJ := by
  intro S hJ a1
  by_cases h : inR 0 7 a1
  · obtain ⟨j, -, hj, rfl⟩ := inR_n (by decide) h
    obtain ⟨h5, len, hl, h4, h15, hnn⟩ := hJ.t
    have e5 : S 4 1 = S 15 6 := h4.trans h15.symm
    rcases (show j = 0 ∨ j = 1 ∨ j = 2 ∨ j = 3 ∨ j = 4 ∨ j = 5 ∨ j = 6 ∨ j = 7 by omega) with rfl | rfl | rfl | rfl | rfl | rfl | rfl | rfl
    · exact qOp_xx (c_X_count_0 l E S (S 0) (S 14) rfl rfl hJ.w0 (S 4) rfl) (by rw [hJ.e.1 0 (by omega)]; exact c_R_count_0 l E _ (S 16) (by rfl) hJ.w16 (S 15) (by rfl)) hJ (by decide) (by decide)
    · exact qOp_xx (c_X_count_1 l E S (S 0) (S 14) rfl rfl hJ.w0 (S 4) rfl) (by rw [hJ.e.1 1 (by omega)]; exact c_R_count_1 l E _ (S 16) (by rfl) hJ.w16 (S 15) (by rfl)) hJ (by decide) (by decide)
    · exact qOp_xx (c_X_count_2 l E S (S 0) (S 14) rfl rfl hJ.w0 (S 4) rfl) (by rw [hJ.e.1 3 (by omega)]; exact c_R_count_2 l E _ (S 16) (by rfl) hJ.w16 (S 15) (by rfl)) hJ (by decide) (by decide)
    · exact qOp_xx (c_X_count_3 l E S (S 0) (S 14) rfl rfl hJ.w0 (S 4) rfl) (by rw [sumS_e hJ.e (f := 4) (by omega)]; exact c_R_count_3 l E _ (S 16) (by rfl) hJ.w16 (S 15) (by rfl)) hJ (by decide) (by decide)
    · exact qOp_xx (c_X_count_4 l E S (S 0) (S 14) rfl rfl hJ.w0 (S 4) rfl) (by rw [sumS_e hJ.e (f := 5) (by omega)]; exact c_R_count_4 l E _ (S 16) (by rfl) hJ.w16 (S 15) (by rfl)) hJ (by decide) (by decide)
    · exact qOp_xx (c_X_count_5 l E S (S 0) (S 14) rfl rfl hJ.w0 (S 4) rfl) (by rw [e5]; exact c_R_count_5 l E _ (S 16) (by rfl) hJ.w16 (S 15) (by rfl)) hJ (by decide) (by decide)
    · exact qOp_xx (c_X_count_6 l E S (S 0) (S 14) rfl rfl hJ.w0 (S 4) rfl) (by rw [hJ.e.1 2 (by omega)]; exact c_R_count_6 l E _ (S 16) (by rfl) hJ.w16 (S 15) (by rfl)) hJ (by decide) (by decide)
    · exact qOp_xx (c_X_count_7 l E S (S 0) (S 14) rfl rfl hJ.w0 (S 4) rfl) (by rw [hldS_e hJ.e]; exact c_R_count_7 l E _ (S 16) (by rfl) hJ.w16 (S 15) (by rfl)) hJ (by decide) (by decide)
  · exact qOp_xx (c_X_count_b l E S (S 0) (S 14) rfl rfl hJ.w0 _ h) (c_R_count_b l E _ (S 16) (by rfl) hJ.w16 (S 19) (by rfl) _ h) (J_fn hJ 0 (by decide)) (by decide) (by decide)
theorem op_status (E : QE) (l : Launch) : qH_status E l qJ := by
  intro S hJ a1
  by_cases h : (-1) ≤ a1 ∧ a1 ≤ nI 6
  · rcases m1_n (by decide) h with rfl | ⟨i, hi, rfl⟩
    · exact qOp_xx (c_X_status_m l E S (S 0) (S 14) rfl rfl hJ.w0 ) (by rw [← hJ.f.2]; exact c_R_status_m l E _ (S 15) (S 20) (S 19) (by rfl) (by rfl) (by rfl)) hJ (by decide) (by decide)
    · exact qOp_xx (c_X_status_g l E S (S 0) (S 14) rfl rfl hJ.w0 i hi) (by rw [← hJ.f.1 i (by omega)]; exact c_R_status_g l E _ (S 15) (S 20) (S 19) (by rfl) (by rfl) (by rfl) i hi) hJ (by decide) (by decide)
  · exact qOp_xx (c_X_status_b l E S (S 0) (S 14) rfl rfl hJ.w0 _ h) (c_R_status_b l E _ (S 15) (S 20) (S 19) (by rfl) (by rfl) (by rfl) _ h) (J_fn hJ 0 (by decide)) (by decide) (by decide)
theorem op_wipe (E : QE) (l : Launch) : qH_wipe E l qJ := by
  intro S hJ 
  obtain ⟨h5, len, hl, h4, h15, hnn⟩ := hJ.t
  have e5 : S 4 1 = S 15 6 := h4.trans h15.symm
  refine qOp_xx (c_X_wipe l E S (S 0) (S 14) rfl rfl hJ.w0 (S 4) rfl) (by rw [e5]; exact c_R_wipe l E _ (S 15) (S 20) (S 19) (by rfl) (by rfl) (by rfl)) ?_ (by decide) (by decide)
  exact ⟨Ja_c hJ.1 rfl rfl, Jb_c hJ.w2 rfl, Jk_p hJ.k rfl rfl (show upd (S 15) 6 (nI 0) 3 = S 15 3 from upN (by omega)) rfl, Jf_c hJ.f rfl rfl, ⟨h5, 0, by decide, (show upd (S 4) 1 (nI 0) 1 = _ from upd_at), (show upd (S 15) 6 (nI 0) 6 = _ from upd_at), fun i hi => absurd hi (Nat.not_lt_zero _)⟩, Js_c hJ.s (fun r hr => by rw [qr_ne (by omega), qr_ne (by omega)])⟩
theorem op_feed (E : QE) (l : Launch) : qH_feed E l qJ := by
  intro S hJ a1 a2
  obtain ⟨h5, len, hl, h4, h15, hnn⟩ := hJ.t
  by_cases h : inR 1 4 a2
  · obtain ⟨j, hj1, hj, rfl⟩ := inR_n (by decide) h
    rcases (show j = 1 ∨ j = 2 ∨ j = 3 ∨ j = 4 by omega) with rfl | rfl | rfl | rfl
    · by_cases hf : len + 1 ≤ 120
      · refine qOp_xx (c_X_feed_1 l E S (S 0) (S 14) rfl rfl hJ.w0 (S 4) (S 5) rfl rfl len h4 hl a1 hf) (c_R_feed_1 l E _ (S 15) (S 20) (S 19) (by rfl) (by rfl) (by rfl) len h15 hl a1 hf) ?_ (by decide) (by decide)
        exact ⟨Ja_c hJ.1 rfl rfl, Jb_c hJ.w2 rfl, Jk_p hJ.k rfl rfl (show upd (S 15) 6 (nI (len + 1)) 3 = S 15 3 from upN (by omega)) rfl, Jf_c hJ.f rfl rfl, ⟨by show apS (S 5) _ _ _ _ = apS (S 20) _ _ _ _; rw [h5], len + 1, hf, (show upd (S 4) 1 (nI (len + 1)) 1 = _ from upd_at), (show upd (S 15) 6 (nI (len + 1)) 6 = _ from upd_at), apS_0 hnn 1 0⟩, Js_c hJ.s (fun r hr => by rw [qr_ne (by omega), qr_ne (by omega), qr_ne (by omega), qr_ne (by omega)])⟩
      · exact qOp_xx (c_X_feed_f1 l E S (S 0) (S 14) rfl rfl hJ.w0 (S 4) (S 5) rfl rfl len h4 hl a1 hf) (c_R_feed_f1 l E _ (S 15) (S 20) (S 19) (by rfl) (by rfl) (by rfl) len h15 hl a1 hf) (J_fn hJ 1 (by decide)) (by decide) (by decide)
    · by_cases hf : len + 2 ≤ 120
      · refine qOp_xx (c_X_feed_2 l E S (S 0) (S 14) rfl rfl hJ.w0 (S 4) (S 5) rfl rfl len h4 hl a1 hf) (c_R_feed_2 l E _ (S 15) (S 20) (S 19) (by rfl) (by rfl) (by rfl) len h15 hl a1 hf) ?_ (by decide) (by decide)
        exact ⟨Ja_c hJ.1 rfl rfl, Jb_c hJ.w2 rfl, Jk_p hJ.k rfl rfl (show upd (S 15) 6 (nI (len + 2)) 3 = S 15 3 from upN (by omega)) rfl, Jf_c hJ.f rfl rfl, ⟨by show apS (S 5) _ _ _ _ = apS (S 20) _ _ _ _; rw [h5], len + 2, hf, (show upd (S 4) 1 (nI (len + 2)) 1 = _ from upd_at), (show upd (S 15) 6 (nI (len + 2)) 6 = _ from upd_at), apS_0 hnn 2 0⟩, Js_c hJ.s (fun r hr => by rw [qr_ne (by omega), qr_ne (by omega), qr_ne (by omega), qr_ne (by omega)])⟩
      · exact qOp_xx (c_X_feed_f2 l E S (S 0) (S 14) rfl rfl hJ.w0 (S 4) (S 5) rfl rfl len h4 hl a1 hf) (c_R_feed_f2 l E _ (S 15) (S 20) (S 19) (by rfl) (by rfl) (by rfl) len h15 hl a1 hf) (J_fn hJ 1 (by decide)) (by decide) (by decide)
    · by_cases hf : len + 3 ≤ 120
      · refine qOp_xx (c_X_feed_3 l E S (S 0) (S 14) rfl rfl hJ.w0 (S 4) (S 5) rfl rfl len h4 hl a1 hf) (c_R_feed_3 l E _ (S 15) (S 20) (S 19) (by rfl) (by rfl) (by rfl) len h15 hl a1 hf) ?_ (by decide) (by decide)
        exact ⟨Ja_c hJ.1 rfl rfl, Jb_c hJ.w2 rfl, Jk_p hJ.k rfl rfl (show upd (S 15) 6 (nI (len + 3)) 3 = S 15 3 from upN (by omega)) rfl, Jf_c hJ.f rfl rfl, ⟨by show apS (S 5) _ _ _ _ = apS (S 20) _ _ _ _; rw [h5], len + 3, hf, (show upd (S 4) 1 (nI (len + 3)) 1 = _ from upd_at), (show upd (S 15) 6 (nI (len + 3)) 6 = _ from upd_at), apS_0 hnn 3 0⟩, Js_c hJ.s (fun r hr => by rw [qr_ne (by omega), qr_ne (by omega), qr_ne (by omega), qr_ne (by omega)])⟩
      · exact qOp_xx (c_X_feed_f3 l E S (S 0) (S 14) rfl rfl hJ.w0 (S 4) (S 5) rfl rfl len h4 hl a1 hf) (c_R_feed_f3 l E _ (S 15) (S 20) (S 19) (by rfl) (by rfl) (by rfl) len h15 hl a1 hf) (J_fn hJ 1 (by decide)) (by decide) (by decide)
    · by_cases hf : len + 4 ≤ 120
      · refine qOp_xx (c_X_feed_4 l E S (S 0) (S 14) rfl rfl hJ.w0 (S 4) (S 5) rfl rfl len h4 hl a1 hf) (c_R_feed_4 l E _ (S 15) (S 20) (S 19) (by rfl) (by rfl) (by rfl) len h15 hl a1 hf) ?_ (by decide) (by decide)
        exact ⟨Ja_c hJ.1 rfl rfl, Jb_c hJ.w2 rfl, Jk_p hJ.k rfl rfl (show upd (S 15) 6 (nI (len + 4)) 3 = S 15 3 from upN (by omega)) rfl, Jf_c hJ.f rfl rfl, ⟨by show apS (S 5) _ _ _ _ = apS (S 20) _ _ _ _; rw [h5], len + 4, hf, (show upd (S 4) 1 (nI (len + 4)) 1 = _ from upd_at), (show upd (S 15) 6 (nI (len + 4)) 6 = _ from upd_at), apS_0 hnn 4 0⟩, Js_c hJ.s (fun r hr => by rw [qr_ne (by omega), qr_ne (by omega), qr_ne (by omega), qr_ne (by omega)])⟩
      · exact qOp_xx (c_X_feed_f4 l E S (S 0) (S 14) rfl rfl hJ.w0 (S 4) (S 5) rfl rfl len h4 hl a1 hf) (c_R_feed_f4 l E _ (S 15) (S 20) (S 19) (by rfl) (by rfl) (by rfl) len h15 hl a1 hf) (J_fn hJ 1 (by decide)) (by decide) (by decide)
  · exact qOp_xx (c_X_feed_b l E S (S 0) (S 14) rfl rfl hJ.w0 _ _ h) (c_R_feed_b l E _ (S 15) (S 20) (S 19) (by rfl) (by rfl) (by rfl) _ _ h) (J_fn hJ 0 (by decide)) (by decide) (by decide)
theorem op_image (E : QE) (l : Launch) : qH_image E l qJ := by
  intro S hJ 
  refine qOp_xx (c_X_image l E S (S 0) (S 14) rfl rfl hJ.w0 (S 3) (S 1) rfl rfl) (c_R_image l E _ (S 15) (S 20) (S 19) (by rfl) (by rfl) (by rfl) (S 16) (S 17) (by rfl) (by rfl)) ?_ (by decide) (by decide)
  have hc : eq80 (c80 (S 16) (S 17) 80) (S 16) := eq80_c
  exact ⟨Ja_c hJ.1 rfl rfl, Jb_c hJ.w2 rfl, ⟨by show upd (S 3) 3 (nI 1) 3 = upd (S 15) 3 (nI 1) 3; rw [upd_at, upd_at], fun _ => ⟨becS_wf hJ.w0, hc.wf hJ.w16, ((becS_e hJ.w0).tr hJ.e).tr (hc.eqv hJ.w16).sy⟩⟩, Jf_c hJ.f rfl rfl, (by obtain ⟨h5, len, hl, h4, h15, hnn⟩ := hJ.t; exact ⟨h5, len, hl, h4, (show upd (S 15) 3 (nI 1) 6 = _ from (upN (by omega)).trans h15), hnn⟩), Js_c hJ.s (fun r hr => by rw [qr_ne (by omega), qr_ne (by omega), qr_ne (by omega), qr_ne (by omega)])⟩
theorem op_undo (E : QE) (l : Launch) : qH_undo E l qJ := by
  intro S hJ 
  by_cases hk : S 15 3 = 0
  · exact qOp_xx (c_X_undo_n l E S (S 0) (S 14) rfl rfl hJ.w0 (S 3) (S 1) rfl rfl (hJ.k.1.trans hk)) (c_R_undo_n l E _ (S 15) (S 20) (S 19) (by rfl) (by rfl) (by rfl) (S 16) (S 17) (by rfl) (by rfl) hk) (J_fn hJ 3 (by decide)) (by decide) (by decide)
  · obtain ⟨w1, w17, e17⟩ := hJ.k.2 hk
    have hc : eq80 (c80 (S 17) (S 16) 80) (S 17) := eq80_c
    have e0 : becS (S 0) (S 1) 0 = S 17 0 := ((becS_e w1).1 0 (by omega)).trans (e17.1 0 (by omega))
    refine qOp_xx (c_X_undo_g l E S (S 0) (S 14) rfl rfl hJ.w0 (S 3) (S 1) rfl rfl w1 (fun z => hk (hJ.k.1.symm.trans z))) (by rw [e0]; exact c_R_undo_g l E _ (S 15) (S 20) (S 19) (by rfl) (by rfl) (by rfl) (S 16) (S 17) (by rfl) (by rfl) hk) ?_ (by decide) (by decide)
    exact J_row hJ (becS_wf w1) (hc.wf w17) (((becS_e w1).tr e17).tr (hc.eqv w17).sy)
theorem op_tear (E : QE) (l : Launch) : qH_tear E l qJ := by
  intro S hJ 
  by_cases hk : S 15 3 = 0
  · refine qOp_xx (c_X_tear_n l E S (S 0) (S 14) rfl rfl hJ.w0 (S 3) (S 1) rfl rfl (hJ.k.1.trans hk)) (c_R_tear_n l E _ (S 15) (S 20) (S 19) (by rfl) (by rfl) (by rfl) hk) ?_ (by decide) (by decide)
    exact ⟨Ja_c hJ.1 rfl rfl, Jb_c hJ.w2 rfl, ⟨by show upd (S 3) 3 (nI 0) 3 = upd (S 15) 3 (nI 0) 3; rw [upd_at, upd_at], fun z => absurd (show upd (S 15) 3 (nI 0) 3 = 0 from upd_at) z⟩, Jf_c hJ.f rfl rfl, (by obtain ⟨h5, len, hl, h4, h15, hnn⟩ := hJ.t; exact ⟨h5, len, hl, h4, (show upd (S 15) 3 (nI 0) 6 = _ from (upN (by omega)).trans h15), hnn⟩), Js_c hJ.s (fun r hr => by rw [qr_ne (by omega), qr_ne (by omega)])⟩
  · refine qOp_xx (c_X_tear_g l E S (S 0) (S 14) rfl rfl hJ.w0 (S 3) (S 1) rfl rfl (fun z => hk (hJ.k.1.symm.trans z))) (c_R_tear_g l E _ (S 15) (S 20) (S 19) (by rfl) (by rfl) (by rfl) hk) ?_ (by decide) (by decide)
    exact ⟨Ja_c hJ.1 rfl rfl, Jb_c hJ.w2 rfl, ⟨by show upd (S 3) 3 (nI 0) 3 = upd (S 15) 3 (nI 0) 3; rw [upd_at, upd_at], fun z => absurd (show upd (S 15) 3 (nI 0) 3 = 0 from upd_at) z⟩, Jf_c hJ.f rfl rfl, (by obtain ⟨h5, len, hl, h4, h15, hnn⟩ := hJ.t; exact ⟨h5, len, hl, h4, (show upd (S 15) 3 (nI 0) 6 = _ from (upN (by omega)).trans h15), hnn⟩), Js_c hJ.s (fun r hr => by rw [qr_ne (by omega), qr_ne (by omega)])⟩
theorem op_text (E : QE) (l : Launch) : qH_text E l qJ := by
  intro S hJ 
  obtain ⟨h5, len, hl, h4, h15, hnn⟩ := hJ.t
  have hb : eqv (becS (S 2) (S 0)) (S 16) := (becS_e hJ.w0).tr hJ.e
  have hbw : WF (becS (S 2) (S 0)) := becS_wf hJ.w0
  obtain ⟨e1, e2⟩ := rAll_e (σ := S 5) (len := len) 120 0 0 _ _ hb hbw
  have wr := rAll_wf (σ := S 5) (len := len) 120 0 0 _ hbw
  have wq := rAll_wf (σ := S 5) (len := len) 120 0 0 _ hJ.w16
  by_cases h : nI 0 < (rAll (S 5) len 120 0 0 (becS (S 2) (S 0))).1
  · refine qOp_pp (d2 := 9) (P' := fun u v => ∃ τ κ, τ 3 = S 15 3 ∧ τ 6 = nI 0 ∧ v = qr (qr (qr u 21 κ) 15 τ) 16 (rAll (S 5) len 120 0 0 (S 16)).2) (c_X_text_g l E S (S 0) (S 2) (S 4) (S 5) rfl rfl rfl rfl hJ.w0 len h4 hl h) (fun u hu => ?_) (fun u hu v hv => ?_) (by decide) (by decide)
    · obtain ⟨κ, hκ, rfl⟩ := hu
      rw [e1]
      exact c_R_text_g l E _ (S 15) (S 5) _ (S 16) (by rfl) (by exact h5.symm) (by rfl) (by rfl) hJ.w16 len (S 15 3) rfl h15 hl (by rw [h5]; exact hnn) (by rw [← e1]; exact h)
    · obtain ⟨κ, hκ, rfl⟩ := hu
      obtain ⟨τ, κ2, h3, h6, rfl⟩ := hv
      exact ⟨⟨becS_wf wr, wq, (becS_e wr).tr e2⟩, wr, Jk_p hJ.k rfl rfl h3 rfl, Jf_c hJ.f rfl rfl, ⟨h5, 0, by decide, hκ, h6, fun i hi => absurd hi (Nat.not_lt_zero _)⟩, Js_c hJ.s (fun r hr => by rw [qr_ne (by omega), qr_ne (by omega), qr_ne (by omega), qr_ne (by omega), qr_ne (by omega), qr_ne (by omega)])⟩
  · refine qOp_pp (d2 := 9) (P' := fun u v => ∃ τ κ, τ 3 = S 15 3 ∧ τ 6 = nI 0 ∧ v = qr (qr u 21 κ) 15 τ) (c_X_text_n l E S (S 0) (S 2) (S 4) (S 5) rfl rfl rfl rfl hJ.w0 len h4 hl h) (fun u hu => ?_) (fun u hu v hv => ?_) (by decide) (by decide)
    · obtain ⟨κ, hκ, rfl⟩ := hu
      rw [e1]
      exact c_R_text_n l E _ (S 15) (S 5) _ (S 16) (by rfl) (by exact h5.symm) (by rfl) (by rfl) hJ.w16 len (S 15 3) rfl h15 hl (by rw [h5]; exact hnn) (by rw [← e1]; exact h)
    · obtain ⟨κ, hκ, rfl⟩ := hu
      obtain ⟨τ, κ2, h3, h6, rfl⟩ := hv
      exact ⟨Ja_c hJ.1 rfl rfl, wr, Jk_p hJ.k rfl rfl h3 rfl, Jf_c hJ.f rfl rfl, ⟨h5, 0, by decide, hκ, h6, fun i hi => absurd hi (Nat.not_lt_zero _)⟩, Js_c hJ.s (fun r hr => by rw [qr_ne (by omega), qr_ne (by omega), qr_ne (by omega), qr_ne (by omega)])⟩
