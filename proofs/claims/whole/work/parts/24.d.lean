theorem qOp_llx {E : QE} {l : Launch} {y1 y2 : MethodName} {b1 b2 : ByteArray} {n1 n2 d1 d2 : Nat} {as : List Value} {J : QM → Prop} {S u v : QM} {r : Int64} (hc : qCL E l y1 b1 n1 d1 (.ref (eA E 0) :: as) S r u) (hr : qCL E l y2 b2 n2 d2 (.ref (eA E 70) :: as) u r v) (hJ : J v) (h1 : d1 ≤ 11) (h2 : d2 ≤ 11) : qOpL E l y1 b1 n1 y2 b2 n2 as J S :=
  ⟨d1, d2, r, fun w => w = u, h1, h2, hc, fun w hw => by subst hw; exact ⟨fun z => z = v, hr, fun z hz => by subst hz; exact hJ⟩⟩
theorem op_ahead (E : QE) (l : Launch) : qH_ahead E l qJ := by
  intro S hJ a1 a2 a3
  by_cases h : isT (S 0) a1 ∧ inR 1 2 a2 ∧ inR 0 100 a3
  · obtain ⟨t, ht, rfl⟩ := isT_n hJ.w0 h.1
    have ht2 : t < nT (S 16) := by rw [← hJ.e.nT]; exact ht
    obtain ⟨j, hj1, hj, rfl⟩ := inR_n (by decide) h.2.1
    obtain ⟨n, -, hn, rfl⟩ := inR_n (by decide) h.2.2
    rcases (show j = 1 ∨ j = 2 by omega) with rfl | rfl
    · have e := dayT hJ.e hJ.w0 (n := n) (f := 1) ht (by omega)
      refine qOp_pp (d2 := 10) (P' := fun u => bhG u (S 16)) (c_X_ahead_1 l E S (S 0) (S 14) (S 2) rfl rfl rfl hJ.w0 t n ht hn) (fun u hu => ?_) (fun u hu v hv => J_any hJ hu hv) (by decide) (by decide)
      obtain ⟨τ, -, rfl⟩ := hu
      rw [e]
      exact c_R_ahead_1 l E _ (S 16) (by rfl) hJ.w16 _ (by rfl) t n ht2 hn
    · have e := dayT hJ.e hJ.w0 (n := n) (f := 2) ht (by omega)
      refine qOp_pp (d2 := 10) (P' := fun u => bhG u (S 16)) (c_X_ahead_2 l E S (S 0) (S 14) (S 2) rfl rfl rfl hJ.w0 t n ht hn) (fun u hu => ?_) (fun u hu v hv => J_any hJ hu hv) (by decide) (by decide)
      obtain ⟨τ, -, rfl⟩ := hu
      rw [e]
      exact c_R_ahead_2 l E _ (S 16) (by rfl) hJ.w16 _ (by rfl) t n ht2 hn
  · exact qOp_xx (c_X_ahead_b l E S (S 0) (S 14) rfl rfl hJ.w0 _ _ _ h) (c_R_ahead_b l E _ (S 16) (by rfl) hJ.w16 (S 19) (by rfl) _ _ _ (fun z => h ⟨(isT_e hJ.e).mpr z.1, z.2⟩)) (J_fn hJ 0 (by decide)) (by decide) (by decide)
theorem op_later (E : QE) (l : Launch) : qH_later E l qJ := by
  intro S hJ a1 a2 a3
  by_cases h : isW (S 0) a1 ∧ (a2 = 0 ∨ inR 3 5 a2) ∧ inR 0 100 a3
  · obtain ⟨t, ht, rfl⟩ := isW_n hJ.w0 h.1
    have ht2 : t < nW (S 16) := by rw [← hJ.e.nW]; exact ht
    obtain ⟨n, -, hn, rfl⟩ := inR_n (by decide) h.2.2
    rcases h.2.1 with h0 | h0
    · have h0 : a2 = nI 0 := h0
      subst h0
      have e := dayW0 hJ.e hJ.w0 (n := n) ht
      refine qOp_pp (d2 := 10) (P' := fun u => bhG u (S 16)) (c_X_later_0 l E S (S 0) (S 14) (S 2) rfl rfl rfl hJ.w0 t n ht hn) (fun u hu => ?_) (fun u hu v hv => J_any hJ hu hv) (by decide) (by decide)
      obtain ⟨τ, -, rfl⟩ := hu
      rw [e]
      exact c_R_later_0 l E _ (S 16) (by rfl) hJ.w16 _ (by rfl) t n ht2 hn
    · obtain ⟨j, hj1, hj, rfl⟩ := inR_n (by decide) h0
      rcases (show j = 3 ∨ j = 4 ∨ j = 5 by omega) with rfl | rfl | rfl
      · have e := dayW hJ.e hJ.w0 (n := n) (f := 3) ht (by omega)
        refine qOp_pp (d2 := 10) (P' := fun u => bhG u (S 16)) (c_X_later_3 l E S (S 0) (S 14) (S 2) rfl rfl rfl hJ.w0 t n ht hn) (fun u hu => ?_) (fun u hu v hv => J_any hJ hu hv) (by decide) (by decide)
        obtain ⟨τ, -, rfl⟩ := hu
        rw [e]
        exact c_R_later_3 l E _ (S 16) (by rfl) hJ.w16 _ (by rfl) t n ht2 hn
      · have e := dayW hJ.e hJ.w0 (n := n) (f := 4) ht (by omega)
        refine qOp_pp (d2 := 10) (P' := fun u => bhG u (S 16)) (c_X_later_4 l E S (S 0) (S 14) (S 2) rfl rfl rfl hJ.w0 t n ht hn) (fun u hu => ?_) (fun u hu v hv => J_any hJ hu hv) (by decide) (by decide)
        obtain ⟨τ, -, rfl⟩ := hu
        rw [e]
        exact c_R_later_4 l E _ (S 16) (by rfl) hJ.w16 _ (by rfl) t n ht2 hn
      · have e := dayW hJ.e hJ.w0 (n := n) (f := 5) ht (by omega)
        refine qOp_pp (d2 := 10) (P' := fun u => bhG u (S 16)) (c_X_later_5 l E S (S 0) (S 14) (S 2) rfl rfl rfl hJ.w0 t n ht hn) (fun u hu => ?_) (fun u hu v hv => J_any hJ hu hv) (by decide) (by decide)
        obtain ⟨τ, -, rfl⟩ := hu
        rw [e]
        exact c_R_later_5 l E _ (S 16) (by rfl) hJ.w16 _ (by rfl) t n ht2 hn
  · exact qOp_xx (c_X_later_b l E S (S 0) (S 14) rfl rfl hJ.w0 _ _ _ h) (c_R_later_b l E _ (S 16) (by rfl) hJ.w16 (S 19) (by rfl) _ _ _ (fun z => h ⟨(isW_e hJ.e).mpr z.1, z.2⟩)) (J_fn hJ 0 (by decide)) (by decide) (by decide)
theorem op_arrives (E : QE) (l : Launch) : qH_arrives E l qJ := by
  intro S hJ a1 a2
  by_cases h : isW (S 0) a1 ∧ inR 0 9999 a2
  · obtain ⟨t, ht, rfl⟩ := isW_n hJ.w0 h.1
    have ht2 : t < nW (S 16) := by rw [← hJ.e.nW]; exact ht
    obtain ⟨v, -, hv, rfl⟩ := inR_n (by decide) h.2
    have e : lst (fun d => nI v ≤ (daysS d (S 0)) (44 + 6 * t + 4)) 201 0 = lst (fun d => nI v ≤ (daysS d (S 16)) (44 + 6 * t + 4)) 201 0 := lst_c _ _ (fun d _ _ => by rw [dayW hJ.e hJ.w0 (n := d) (f := 4) ht (by omega)])
    by_cases hF : lst (fun d => nI v ≤ (daysS d (S 0)) (44 + 6 * t + 4)) 201 0 < 201
    · skip
      refine qOp_pp (d2 := 9) (P' := fun u => bhG u (S 16)) (c_X_arrives_g l E S (S 0) (S 14) (S 2) rfl rfl rfl hJ.w0 t v ht hv hF) (fun u hu => ?_) (fun u hu v hv => J_any hJ hu hv) (by decide) (by decide)
      obtain ⟨τ, -, rfl⟩ := hu
      rw [e]
      exact c_R_arrives_g l E _ (S 16) (by rfl) hJ.w16 _ (by rfl) t v ht2 hv (by rw [← e]; exact hF)
    · skip
      refine qOp_pp (d2 := 9) (P' := fun u => bhG (qr u 19 (fnR (S 19) 3)) (S 16)) (c_X_arrives_n l E S (S 0) (S 14) (S 2) rfl rfl rfl hJ.w0 t v ht hv hF) (fun u hu => ?_) (fun u hu v hv => J_anyF hJ (by decide) hu hv) (by decide) (by decide)
      obtain ⟨τ, -, rfl⟩ := hu
      exact c_R_arrives_n l E _ (S 16) (by rfl) hJ.w16 _ (by rfl) (S 19) (by rfl) t v ht2 hv (by rw [← e]; exact hF)
  · exact qOp_xx (c_X_arrives_b l E S (S 0) (S 14) rfl rfl hJ.w0 _ _ h) (c_R_arrives_b l E _ (S 16) (by rfl) hJ.w16 (S 19) (by rfl) _ _ (fun z => h ⟨(isW_e hJ.e).mpr z.1, z.2⟩)) (J_fn hJ 0 (by decide)) (by decide) (by decide)
theorem op_spies (E : QE) (l : Launch) : qH_spies E l qJ := by
  intro S hJ a1 a2
  by_cases h : isW (S 0) a1 ∧ isT (S 0) a2
  · obtain ⟨w, hw, rfl⟩ := isW_n hJ.w0 h.1
    have hw2 : w < nW (S 16) := by rw [← hJ.e.nW]; exact hw
    obtain ⟨t, ht, rfl⟩ := isT_n hJ.w0 h.2
    have ht2 : t < nT (S 16) := by rw [← hJ.e.nT]; exact ht
    have e : lst (fun d => see (daysS d (S 0)) w t) 201 0 = lst (fun d => see (daysS d (S 16)) w t) 201 0 := lst_c _ _ (fun d _ _ => see_e (daysS_e hJ.e hJ.w0 d) (dW hJ.w0 hw d) (dT hJ.w0 ht d))
    by_cases hF : lst (fun d => see (daysS d (S 0)) w t) 201 0 < 201
    · skip
      refine qOp_pp (d2 := 9) (P' := fun u => bhG u (S 16)) (c_X_spies_g l E S (S 0) (S 14) (S 2) rfl rfl rfl hJ.w0 w t hw ht hF) (fun u hu => ?_) (fun u hu v hv => J_any hJ hu hv) (by decide) (by decide)
      obtain ⟨τ, -, rfl⟩ := hu
      rw [e]
      exact c_R_spies_g l E _ (S 16) (by rfl) hJ.w16 _ (by rfl) w t hw2 ht2 (by rw [← e]; exact hF)
    · skip
      refine qOp_pp (d2 := 9) (P' := fun u => bhG (qr u 19 (fnR (S 19) 3)) (S 16)) (c_X_spies_n l E S (S 0) (S 14) (S 2) rfl rfl rfl hJ.w0 w t hw ht hF) (fun u hu => ?_) (fun u hu v hv => J_anyF hJ (by decide) hu hv) (by decide) (by decide)
      obtain ⟨τ, -, rfl⟩ := hu
      exact c_R_spies_n l E _ (S 16) (by rfl) hJ.w16 _ (by rfl) (S 19) (by rfl) w t hw2 ht2 (by rw [← e]; exact hF)
  · exact qOp_xx (c_X_spies_b l E S (S 0) (S 14) rfl rfl hJ.w0 _ _ h) (c_R_spies_b l E _ (S 16) (by rfl) hJ.w16 (S 19) (by rfl) _ _ (fun z => h ⟨(isW_e hJ.e).mpr z.1, (isT_e hJ.e).mpr z.2⟩)) (J_fn hJ 0 (by decide)) (by decide) (by decide)
theorem op_meet (E : QE) (l : Launch) : qH_meet E l qJ := by
  intro S hJ a1 a2
  by_cases h : isW (S 0) a1 ∧ isW (S 0) a2 ∧ ¬ a1 = a2
  · obtain ⟨w, hw, rfl⟩ := isW_n hJ.w0 h.1
    have hw2 : w < nW (S 16) := by rw [← hJ.e.nW]; exact hw
    obtain ⟨t, ht, rfl⟩ := isW_n hJ.w0 h.2.1
    have ht2 : t < nW (S 16) := by rw [← hJ.e.nW]; exact ht
    have hne : ¬ w = t := fun z => h.2.2 (by rw [z])
    have e : lst (fun d => (daysS d (S 0)) (44 + 6 * w) = (daysS d (S 0)) (44 + 6 * t)) 201 0 = lst (fun d => (daysS d (S 16)) (44 + 6 * w) = (daysS d (S 16)) (44 + 6 * t)) 201 0 := lst_c _ _ (fun d _ _ => by rw [dayW0 hJ.e hJ.w0 (n := d) hw, dayW0 hJ.e hJ.w0 (n := d) ht])
    by_cases hF : lst (fun d => (daysS d (S 0)) (44 + 6 * w) = (daysS d (S 0)) (44 + 6 * t)) 201 0 < 201
    · skip
      refine qOp_pp (d2 := 9) (P' := fun u => bhG u (S 16)) (c_X_meet_g l E S (S 0) (S 14) (S 2) rfl rfl rfl hJ.w0 w t hw ht hne hF) (fun u hu => ?_) (fun u hu v hv => J_any hJ hu hv) (by decide) (by decide)
      obtain ⟨τ, -, rfl⟩ := hu
      rw [e]
      exact c_R_meet_g l E _ (S 16) (by rfl) hJ.w16 _ (by rfl) w t hw2 ht2 hne (by rw [← e]; exact hF)
    · skip
      refine qOp_pp (d2 := 9) (P' := fun u => bhG (qr u 19 (fnR (S 19) 3)) (S 16)) (c_X_meet_n l E S (S 0) (S 14) (S 2) rfl rfl rfl hJ.w0 w t hw ht hne hF) (fun u hu => ?_) (fun u hu v hv => J_anyF hJ (by decide) hu hv) (by decide) (by decide)
      obtain ⟨τ, -, rfl⟩ := hu
      exact c_R_meet_n l E _ (S 16) (by rfl) hJ.w16 _ (by rfl) (S 19) (by rfl) w t hw2 ht2 hne (by rw [← e]; exact hF)
  · exact qOp_xx (c_X_meet_b l E S (S 0) (S 14) rfl rfl hJ.w0 _ _ h) (c_R_meet_b l E _ (S 16) (by rfl) hJ.w16 (S 19) (by rfl) _ _ (fun z => h ⟨(isW_e hJ.e).mpr z.1, (isW_e hJ.e).mpr z.2.1, z.2.2⟩)) (J_fn hJ 0 (by decide)) (by decide) (by decide)
theorem op_startFor (E : QE) (l : Launch) : qH_startFor E l qJ := by
  intro S hJ a1 a2
  by_cases h : isW (S 0) a1 ∧ inR 0 40 a2
  · obtain ⟨w, hw, rfl⟩ := isW_n hJ.w0 h.1
    have hw2 : w < nW (S 16) := by rw [← hJ.e.nW]; exact hw
    obtain ⟨n, -, hn, rfl⟩ := inR_n (by decide) h.2
    have e : bst (fun i => gotS (S 0) w 0 (nI i) n) 16 = bst (fun i => gotS (S 16) w 0 (nI i) n) 16 := bst_c _ (fun i hi => got_e hJ.e (by rw [Nat.add_zero]; exact WF_wc hJ.w16 (by have := hJ.w16.wl; omega) (by omega)) hw2 n)
    refine qOp_pp (d2 := 11) (P' := fun u => bhG u (S 16)) (c_X_startFor_g l E S (S 0) (S 14) (S 2) rfl rfl rfl hJ.w0 w n hw hn hJ.w2) (fun u hu => ?_) (fun u hu v hv => J_any hJ hu hv) (by decide) (by decide)
    obtain ⟨τ, -, rfl⟩ := hu
    rw [e]
    exact c_R_startFor_g l E _ (S 16) (by rfl) hJ.w16 _ (by rfl) w n hw2 hn
  · exact qOp_xx (c_X_startFor_b l E S (S 0) (S 14) rfl rfl hJ.w0 _ _ h) (c_R_startFor_b l E _ (S 16) (by rfl) hJ.w16 (S 19) (by rfl) _ _ (fun z => h ⟨(isW_e hJ.e).mpr z.1, z.2⟩)) (J_fn hJ 0 (by decide)) (by decide) (by decide)
theorem op_aimFor (E : QE) (l : Launch) : qH_aimFor E l qJ := by
  intro S hJ a1 a2
  by_cases h : isW (S 0) a1 ∧ inR 0 40 a2
  · obtain ⟨w, hw, rfl⟩ := isW_n hJ.w0 h.1
    have hw2 : w < nW (S 16) := by rw [← hJ.e.nW]; exact hw
    obtain ⟨n, -, hn, rfl⟩ := inR_n (by decide) h.2
    have e : bst (fun i => gotS (S 0) w 1 (nI i) n) 8 = bst (fun i => gotS (S 16) w 1 (nI i) n) 8 := bst_c _ (fun i hi => got_e hJ.e (WF_free hJ.w16 (by omega)) hw2 n)
    refine qOp_pp (d2 := 11) (P' := fun u => bhG u (S 16)) (c_X_aimFor_g l E S (S 0) (S 14) (S 2) rfl rfl rfl hJ.w0 w n hw hn hJ.w2) (fun u hu => ?_) (fun u hu v hv => J_any hJ hu hv) (by decide) (by decide)
    obtain ⟨τ, -, rfl⟩ := hu
    rw [e]
    exact c_R_aimFor_g l E _ (S 16) (by rfl) hJ.w16 _ (by rfl) w n hw2 hn
  · exact qOp_xx (c_X_aimFor_b l E S (S 0) (S 14) rfl rfl hJ.w0 _ _ h) (c_R_aimFor_b l E _ (S 16) (by rfl) hJ.w16 (S 19) (by rfl) _ _ (fun z => h ⟨(isW_e hJ.e).mpr z.1, z.2⟩)) (J_fn hJ 0 (by decide)) (by decide) (by decide)
theorem op_kindFor (E : QE) (l : Launch) : qH_kindFor E l qJ := by
  intro S hJ a1 a2
  by_cases h : isT (S 0) a1 ∧ inR 0 40 a2
  · obtain ⟨t, ht, rfl⟩ := isT_n hJ.w0 h.1
    have ht2 : t < nT (S 16) := by rw [← hJ.e.nT]; exact ht
    obtain ⟨n, -, hn, rfl⟩ := inR_n (by decide) h.2
    have e : bst (fun i => metS (S 0) t (nI i) n) 7 = bst (fun i => metS (S 16) t (nI i) n) 7 := bst_c _ (fun i hi => met_e hJ.e (WF_tk hJ.w16 (by have := hJ.w16.tl; omega) (by omega)) ht2 n)
    refine qOp_pp (d2 := 11) (P' := fun u => bhG u (S 16)) (c_X_kindFor_g l E S (S 0) (S 14) (S 2) rfl rfl rfl hJ.w0 t n ht hn hJ.w2) (fun u hu => ?_) (fun u hu v hv => J_any hJ hu hv) (by decide) (by decide)
    obtain ⟨τ, -, rfl⟩ := hu
    rw [e]
    exact c_R_kindFor_g l E _ (S 16) (by rfl) hJ.w16 _ (by rfl) t n ht2 hn
  · exact qOp_xx (c_X_kindFor_b l E S (S 0) (S 14) rfl rfl hJ.w0 _ _ h) (c_R_kindFor_b l E _ (S 16) (by rfl) hJ.w16 (S 19) (by rfl) _ _ (fun z => h ⟨(isT_e hJ.e).mpr z.1, z.2⟩)) (J_fn hJ 0 (by decide)) (by decide) (by decide)
theorem op_paceFor (E : QE) (l : Launch) : qH_paceFor E l qJ := by
  intro S hJ a1 a2
  by_cases h : isW (S 0) a1 ∧ inR 0 40 a2
  · obtain ⟨w, hw, rfl⟩ := isW_n hJ.w0 h.1
    have hw2 : w < nW (S 16) := by rw [← hJ.e.nW]; exact hw
    obtain ⟨n, -, hn, rfl⟩ := inR_n (by decide) h.2
    have e4 := hJ.e.2.2 w 4 hw (by omega)
    have e : lst (fun v => (S 0) (44 + 6 * w + 4) < gotS (S 0) w 2 (nI v) n) 5 1 = lst (fun v => (S 16) (44 + 6 * w + 4) < gotS (S 16) w 2 (nI v) n) 5 1 := lst_c _ _ (fun v h1 h2 => by rw [e4, got_e hJ.e (WF_wp hJ.w16 (by have := hJ.w16.wl; omega) h1 (by omega)) hw2 n])
    by_cases hF : lst (fun v => (S 0) (44 + 6 * w + 4) < gotS (S 0) w 2 (nI v) n) 5 1 < 6
    · skip
      refine qOp_pp (d2 := 11) (P' := fun u => bhG u (S 16)) (c_X_paceFor_g l E S (S 0) (S 14) (S 2) rfl rfl rfl hJ.w0 w n hw hn hJ.w2 hF) (fun u hu => ?_) (fun u hu v hv => J_any hJ hu hv) (by decide) (by decide)
      obtain ⟨τ, -, rfl⟩ := hu
      rw [e]
      exact c_R_paceFor_g l E _ (S 16) (by rfl) hJ.w16 _ (by rfl) w n hw2 hn (by rw [← e]; exact hF)
    · skip
      refine qOp_pp (d2 := 11) (P' := fun u => bhG (qr u 19 (fnR (S 19) 3)) (S 16)) (c_X_paceFor_n l E S (S 0) (S 14) (S 2) rfl rfl rfl hJ.w0 w n hw hn hJ.w2 hF) (fun u hu => ?_) (fun u hu v hv => J_anyF hJ (by decide) hu hv) (by decide) (by decide)
      obtain ⟨τ, -, rfl⟩ := hu
      exact c_R_paceFor_n l E _ (S 16) (by rfl) hJ.w16 _ (by rfl) (S 19) (by rfl) w n hw2 hn (by rw [← e]; exact hF)
  · exact qOp_xx (c_X_paceFor_b l E S (S 0) (S 14) rfl rfl hJ.w0 _ _ h) (c_R_paceFor_b l E _ (S 16) (by rfl) hJ.w16 (S 19) (by rfl) _ _ (fun z => h ⟨(isW_e hJ.e).mpr z.1, z.2⟩)) (J_fn hJ 0 (by decide)) (by decide) (by decide)
theorem op_odds (E : QE) (l : Launch) : qH_odds E l qJ := by
  intro S hJ a1 a2 a3 a4
  by_cases h : isW (S 0) a1 ∧ isT (S 0) a2 ∧ inR 0 15 a3 ∧ inR 0 1 a4
  · obtain ⟨w, hw, rfl⟩ := isW_n hJ.w0 h.1
    have hw2 : w < nW (S 16) := by rw [← hJ.e.nW]; exact hw
    obtain ⟨t, ht, rfl⟩ := isT_n hJ.w0 h.2.1
    have ht2 : t < nT (S 16) := by rw [← hJ.e.nT]; exact ht
    obtain ⟨n, -, hn, rfl⟩ := inR_n (by decide) h.2.2.1
    obtain ⟨j, -, hj, rfl⟩ := inR_n (by decide) h.2.2.2
    have e := cntS_e hJ.e (n := 16) hw ht
    rcases (show j = 0 ∨ j = 1 by omega) with rfl | rfl
    · refine qOp_ll (d2 := 6) (P' := fun u => any u 16 (fun τ => eq80 τ (S 16))) (c_X_odds_0 l E S (S 0) (S 14) (S 2) rfl rfl rfl hJ.w0 w t n hw ht hn) (fun u hu => ?_) (fun u hu v hv => J_anyR hJ hu hv) (by decide) (by decide)
      obtain ⟨τ, -, rfl⟩ := hu
      rw [e]
      exact c_R_odds_0 l E _ (S 16) (by rfl) hJ.w16 w t n hw2 ht2 hn
    · refine qOp_ll (d2 := 6) (P' := fun u => any u 16 (fun τ => eq80 τ (S 16))) (c_X_odds_1 l E S (S 0) (S 14) (S 2) rfl rfl rfl hJ.w0 w t n hw ht hn) (fun u hu => ?_) (fun u hu v hv => J_anyR hJ hu hv) (by decide) (by decide)
      obtain ⟨τ, -, rfl⟩ := hu
      rw [e]
      exact c_R_odds_1 l E _ (S 16) (by rfl) hJ.w16 w t n hw2 ht2 hn
  · exact qOp_llx (c_X_odds_b l E S (S 0) (S 14) rfl rfl hJ.w0 _ _ _ _ h) (c_R_odds_b l E _ (S 16) (by rfl) hJ.w16 (S 19) (by rfl) _ _ _ _ (fun z => h ⟨(isW_e hJ.e).mpr z.1, (isT_e hJ.e).mpr z.2.1, z.2.2⟩)) (J_fn hJ 0 (by decide)) (by decide) (by decide)
