theorem op_turn (E : QE) (l : Launch) : qH_turn E l qJ := by
  intro S hJ a1 a2 a3
  by_cases h : inR 0 5 a1 ∧ inR 0 5 a2 ∧ inR 0 7 a3
  · obtain ⟨i, -, hi, rfl⟩ := inR_n (by decide) h.1
    obtain ⟨v, -, hv, rfl⟩ := inR_n (by decide) h.2.1
    obtain ⟨t, -, ht, rfl⟩ := inR_n (by decide) h.2.2
    have e : S 0 (4 + i) = S 16 (4 + i) := hJ.e.1 _ (by omega)
    refine qOp_xx (c_X_turn_g l E S (S 0) (S 14) rfl rfl hJ.w0 i v t hi hv ht) (by rw [e]; exact c_R_turn_g l E _ (S 16) (by rfl) hJ.w16 i v t hi hv ht) ?_ (by decide) (by decide)
    exact J_row hJ (WF_free hJ.w0 (by omega)) (WF_free hJ.w16 (by omega)) (hJ.e.up _ (by omega) (by omega))
  · exact qOp_xx (c_X_turn_b l E S (S 0) (S 14) rfl rfl hJ.w0 _ _ _ h) (c_R_turn_b l E _ (S 16) (by rfl) hJ.w16 (S 19) (by rfl) _ _ _ h) (J_fn hJ 0 (by decide)) (by decide) (by decide)
theorem op_listed (E : QE) (l : Launch) : qH_listed E l qJ := by
  intro S hJ a1
  by_cases h : inR 0 5 a1
  · obtain ⟨i, -, hi, rfl⟩ := inR_n (by decide) h
    have e : S 0 (4 + i) = S 16 (4 + i) := hJ.e.1 _ (by omega)
    exact qOp_xx (c_X_listed_g l E S (S 0) (S 14) rfl rfl hJ.w0 i hi) (by rw [e]; exact c_R_listed_g l E _ (S 16) (by rfl) hJ.w16 i hi) hJ (by decide) (by decide)
  · exact qOp_xx (c_X_listed_b l E S (S 0) (S 14) rfl rfl hJ.w0 _ h) (c_R_listed_b l E _ (S 16) (by rfl) hJ.w16 (S 19) (by rfl) _ h) (J_fn hJ 0 (by decide)) (by decide) (by decide)
theorem op_thing (E : QE) (l : Launch) : qH_thing E l qJ := by
  intro S hJ a1 a2
  by_cases h : inR 0 6 a1 ∧ inR 0 15 a2
  · obtain ⟨i, -, hi, rfl⟩ := inR_n (by decide) h.1
    obtain ⟨j, -, hj, rfl⟩ := inR_n (by decide) h.2
    have e := hJ.e.nT
    by_cases hn : nT (S 0) < 8
    · refine qOp_xx (c_X_thing_g l E S (S 0) (S 14) rfl rfl hJ.w0 i j hi hj hn) (by rw [e]; exact c_R_thing_g l E _ (S 16) (by rfl) hJ.w16 i j hi hj (by rw [← e]; exact hn)) ?_ (by decide) (by decide)
      exact J_row hJ (WF_addT hJ.w0 hn hi hj) (WF_addT hJ.w16 (by rw [← e]; exact hn) hi hj) (addT_e hJ.e hJ.w0 hn _ _)
    · exact qOp_xx (c_X_thing_f l E S (S 0) (S 14) rfl rfl hJ.w0 i j hi hj hn) (c_R_thing_f l E _ (S 16) (by rfl) hJ.w16 (S 19) (by rfl) i j hi hj (by rw [← e]; exact hn)) (J_fn hJ 1 (by decide)) (by decide) (by decide)
  · exact qOp_xx (c_X_thing_b l E S (S 0) (S 14) rfl rfl hJ.w0 _ _ h) (c_R_thing_b l E _ (S 16) (by rfl) hJ.w16 (S 19) (by rfl) _ _ h) (J_fn hJ 0 (by decide)) (by decide) (by decide)
theorem op_walker (E : QE) (l : Launch) : qH_walker E l qJ := by
  intro S hJ a1 a2
  by_cases h : inR 0 15 a1 ∧ inR 0 7 a2
  · obtain ⟨i, -, hi, rfl⟩ := inR_n (by decide) h.1
    obtain ⟨j, -, hj, rfl⟩ := inR_n (by decide) h.2
    have e := hJ.e.nW
    by_cases hn : nW (S 0) < 6
    · refine qOp_xx (c_X_walker_g l E S (S 0) (S 14) rfl rfl hJ.w0 i j hi hj hn) (by rw [e]; exact c_R_walker_g l E _ (S 16) (by rfl) hJ.w16 i j hi hj (by rw [← e]; exact hn)) ?_ (by decide) (by decide)
      exact J_row hJ (WF_addW hJ.w0 hn hi) (WF_addW hJ.w16 (by rw [← e]; exact hn) hi) (addW_e hJ.e hJ.w0 hn _ _)
    · exact qOp_xx (c_X_walker_f l E S (S 0) (S 14) rfl rfl hJ.w0 i j hi hj hn) (c_R_walker_f l E _ (S 16) (by rfl) hJ.w16 (S 19) (by rfl) i j hi hj (by rw [← e]; exact hn)) (J_fn hJ 1 (by decide)) (by decide) (by decide)
  · exact qOp_xx (c_X_walker_b l E S (S 0) (S 14) rfl rfl hJ.w0 _ _ h) (c_R_walker_b l E _ (S 16) (by rfl) hJ.w16 (S 19) (by rfl) _ _ h) (J_fn hJ 0 (by decide)) (by decide) (by decide)
theorem op_of (E : QE) (l : Launch) : qH_of E l qJ := by
  intro S hJ a1 a2
  by_cases h : isT (S 0) a1 ∧ inR 0 5 a2
  · obtain ⟨t, ht, rfl⟩ := isT_n hJ.w0 h.1
    obtain ⟨j, -, hj, rfl⟩ := inR_n (by decide) h.2
    have ht2 : t < nT (S 16) := by rw [← hJ.e.nT]; exact ht
    have e0 := hJ.e.2.1 t 0 ht (by omega)
    have e1 := hJ.e.2.1 t 1 ht (by omega)
    have e2 := hJ.e.2.1 t 2 ht (by omega)
    have e3 := hJ.e.1 0 (by omega)
    rw [Nat.add_zero] at e0
    rcases (show j = 0 ∨ j = 1 ∨ j = 2 ∨ j = 3 ∨ j = 4 ∨ j = 5 by omega) with rfl | rfl | rfl | rfl | rfl | rfl
    · exact qOp_xx (c_X_of_0 l E S (S 0) (S 14) rfl rfl hJ.w0 t ht) (by rw [e0]; exact c_R_of_0 l E _ (S 16) (by rfl) hJ.w16 t ht2) hJ (by decide) (by decide)
    · exact qOp_xx (c_X_of_1 l E S (S 0) (S 14) rfl rfl hJ.w0 t ht) (by rw [e1]; exact c_R_of_1 l E _ (S 16) (by rfl) hJ.w16 t ht2) hJ (by decide) (by decide)
    · exact qOp_xx (c_X_of_2 l E S (S 0) (S 14) rfl rfl hJ.w0 t ht) (by rw [e2]; exact c_R_of_2 l E _ (S 16) (by rfl) hJ.w16 t ht2) hJ (by decide) (by decide)
    · exact qOp_xx (c_X_of_3 l E S (S 0) (S 14) rfl rfl hJ.w0 t ht) (by rw [e0]; exact c_R_of_3 l E _ (S 16) (by rfl) hJ.w16 t ht2) hJ (by decide) (by decide)
    · exact qOp_xx (c_X_of_4 l E S (S 0) (S 14) rfl rfl hJ.w0 t ht) (by rw [e0, e2, e3]; exact c_R_of_4 l E _ (S 16) (by rfl) hJ.w16 t ht2) hJ (by decide) (by decide)
    · exact qOp_xx (c_X_of_5 l E S (S 0) (S 14) rfl rfl hJ.w0 t ht) (by rw [e0, e3]; exact c_R_of_5 l E _ (S 16) (by rfl) hJ.w16 t ht2) hJ (by decide) (by decide)
  · exact qOp_xx (c_X_of_b l E S (S 0) (S 14) rfl rfl hJ.w0 _ _ h) (c_R_of_b l E _ (S 16) (by rfl) hJ.w16 (S 19) (by rfl) _ _ (fun z => h ⟨(isT_e hJ.e).mpr z.1, z.2⟩)) (J_fn hJ 0 (by decide)) (by decide) (by decide)
theorem op_change (E : QE) (l : Launch) : qH_change E l qJ := by
  intro S hJ a1 a2 a3
  by_cases h2 : inR 0 2 a2
  · obtain ⟨j, -, hj, rfl⟩ := inR_n (by decide) h2
    rcases (show j = 0 ∨ j = 1 ∨ j = 2 by omega) with rfl | rfl | rfl
    · by_cases h : isT (S 0) a1 ∧ inR 0 6 a3
      · obtain ⟨t, ht, rfl⟩ := isT_n hJ.w0 h.1
        obtain ⟨v, -, hv, rfl⟩ := inR_n (by decide) h.2
        have ht2 : t < nT (S 16) := by rw [← hJ.e.nT]; exact ht
        have e := hJ.e.2.1 t 0 ht (by omega)
        rw [Nat.add_zero] at e
        refine qOp_xx (c_X_change_0 l E S (S 0) (S 14) rfl rfl hJ.w0 t ht v hv) (by rw [e]; exact c_R_change_0 l E _ (S 16) (by rfl) hJ.w16 t ht2 v hv) ?_ (by decide) (by decide)
        exact J_row hJ (WF_tk hJ.w0 (by have := hJ.w0.tl; omega) hv) (WF_tk hJ.w16 (by have := hJ.w16.tl; omega) hv) (hJ.e.up _ (by omega) (by omega))
      · exact qOp_xx (c_X_change_b0 l E S (S 0) (S 14) rfl rfl hJ.w0 _ _ h) (c_R_change_b0 l E _ (S 16) (by rfl) hJ.w16 (S 19) (by rfl) _ _ (fun z => h ⟨(isT_e hJ.e).mpr z.1, z.2⟩)) (J_fn hJ 0 (by decide)) (by decide) (by decide)
    · by_cases h : isT (S 0) a1 ∧ inR 0 15 a3
      · obtain ⟨t, ht, rfl⟩ := isT_n hJ.w0 h.1
        obtain ⟨v, -, hv, rfl⟩ := inR_n (by decide) h.2
        have ht2 : t < nT (S 16) := by rw [← hJ.e.nT]; exact ht
        have e := hJ.e.2.1 t 1 ht (by omega)
        refine qOp_xx (c_X_change_1 l E S (S 0) (S 14) rfl rfl hJ.w0 t ht v hv) (by rw [e]; exact c_R_change_1 l E _ (S 16) (by rfl) hJ.w16 t ht2 v hv) ?_ (by decide) (by decide)
        exact J_row hJ (WF_tc hJ.w0 (by have := hJ.w0.tl; omega) hv) (WF_tc hJ.w16 (by have := hJ.w16.tl; omega) hv) (hJ.e.up _ (by omega) (by omega))
      · exact qOp_xx (c_X_change_b1 l E S (S 0) (S 14) rfl rfl hJ.w0 _ _ h) (c_R_change_b1 l E _ (S 16) (by rfl) hJ.w16 (S 19) (by rfl) _ _ (fun z => h ⟨(isT_e hJ.e).mpr z.1, z.2⟩)) (J_fn hJ 0 (by decide)) (by decide) (by decide)
    · by_cases h : isT (S 0) a1 ∧ inR 0 9999 a3
      · obtain ⟨t, ht, rfl⟩ := isT_n hJ.w0 h.1
        obtain ⟨v, -, hv, rfl⟩ := inR_n (by decide) h.2
        have ht2 : t < nT (S 16) := by rw [← hJ.e.nT]; exact ht
        have e := hJ.e.2.1 t 2 ht (by omega)
        refine qOp_xx (c_X_change_2 l E S (S 0) (S 14) rfl rfl hJ.w0 t ht v hv) (by rw [e]; exact c_R_change_2 l E _ (S 16) (by rfl) hJ.w16 t ht2 v hv) ?_ (by decide) (by decide)
        exact J_row hJ (WF_free hJ.w0 (by have := hJ.w0.tl; omega)) (WF_free hJ.w16 (by have := hJ.w16.tl; omega)) (hJ.e.up _ (by omega) (by omega))
      · exact qOp_xx (c_X_change_b2 l E S (S 0) (S 14) rfl rfl hJ.w0 _ _ h) (c_R_change_b2 l E _ (S 16) (by rfl) hJ.w16 (S 19) (by rfl) _ _ (fun z => h ⟨(isT_e hJ.e).mpr z.2, z.1⟩)) (J_fn hJ 0 (by decide)) (by decide) (by decide)
  · by_cases h1 : isT (S 0) a1
    · exact qOp_xx (c_X_change_b l E S (S 0) (S 14) rfl rfl hJ.w0 _ _ _ (fun z => h2 z.2)) (c_R_change_by l E _ (S 16) (by rfl) hJ.w16 (S 19) (by rfl) _ _ _ h2) (J_fn hJ 0 (by decide)) (by decide) (by decide)
    · exact qOp_xx (c_X_change_b l E S (S 0) (S 14) rfl rfl hJ.w0 _ _ _ (fun z => h1 z.1)) (c_R_change_bx l E _ (S 16) (by rfl) hJ.w16 (S 19) (by rfl) _ _ _ (fun z => h1 ((isT_e hJ.e).mpr z))) (J_fn hJ 0 (by decide)) (by decide) (by decide)
theorem op_ofWalker (E : QE) (l : Launch) : qH_ofWalker E l qJ := by
  intro S hJ a1 a2
  by_cases h : isW (S 0) a1 ∧ inR 0 5 a2
  · obtain ⟨t, ht, rfl⟩ := isW_n hJ.w0 h.1
    obtain ⟨j, -, hj, rfl⟩ := inR_n (by decide) h.2
    have e := hJ.e.2.2 t j ht (by omega)
    exact qOp_xx (c_X_ofWalker_g l E S (S 0) (S 14) rfl rfl hJ.w0 t ht j hj) (by rw [e]; exact c_R_ofWalker_g l E _ (S 16) (by rfl) hJ.w16 t (by rw [← hJ.e.nW]; exact ht) j hj) hJ (by decide) (by decide)
  · exact qOp_xx (c_X_ofWalker_b l E S (S 0) (S 14) rfl rfl hJ.w0 _ _ h) (c_R_ofWalker_b l E _ (S 16) (by rfl) hJ.w16 (S 19) (by rfl) _ _ (fun z => h ⟨(isW_e hJ.e).mpr z.1, z.2⟩)) (J_fn hJ 0 (by decide)) (by decide) (by decide)
theorem op_lead (E : QE) (l : Launch) : qH_lead E l qJ := by
  intro S hJ a1 a2 a3
  by_cases h2 : inR 0 5 a2
  · obtain ⟨j, -, hj, rfl⟩ := inR_n (by decide) h2
    rcases (show j = 0 ∨ j = 1 ∨ j = 2 ∨ j = 3 ∨ j = 4 ∨ j = 5 by omega) with rfl | rfl | rfl | rfl | rfl | rfl
    · by_cases h : isW (S 0) a1 ∧ inR 0 15 a3
      · obtain ⟨t, ht, rfl⟩ := isW_n hJ.w0 h.1
        obtain ⟨v, hv0, hv, rfl⟩ := inR_n (by decide) h.2
        have ht2 : t < nW (S 16) := by rw [← hJ.e.nW]; exact ht
        have e := hJ.e.2.2 t 0 ht (by omega)
        rw [Nat.add_zero] at e
        refine qOp_xx (c_X_lead_0 l E S (S 0) (S 14) rfl rfl hJ.w0 t ht v hv0 hv) (by rw [e]; exact c_R_lead_0 l E _ (S 16) (by rfl) hJ.w16 t ht2 v hv0 hv) ?_ (by decide) (by decide)
        exact J_row hJ (WF_wc hJ.w0 (by have := hJ.w0.wl; omega) hv) (WF_wc hJ.w16 (by have := hJ.w16.wl; omega) hv) (hJ.e.up _ (by omega) (by omega))
      · exact qOp_xx (c_X_lead_b0 l E S (S 0) (S 14) rfl rfl hJ.w0 _ _ h) (c_R_lead_b0 l E _ (S 16) (by rfl) hJ.w16 (S 19) (by rfl) _ _ (fun z => h ⟨(isW_e hJ.e).mpr z.1, z.2⟩)) (J_fn hJ 0 (by decide)) (by decide) (by decide)
    · by_cases h : isW (S 0) a1 ∧ inR 0 7 a3
      · obtain ⟨t, ht, rfl⟩ := isW_n hJ.w0 h.1
        obtain ⟨v, hv0, hv, rfl⟩ := inR_n (by decide) h.2
        have ht2 : t < nW (S 16) := by rw [← hJ.e.nW]; exact ht
        have e := hJ.e.2.2 t 1 ht (by omega)
        refine qOp_xx (c_X_lead_1 l E S (S 0) (S 14) rfl rfl hJ.w0 t ht v hv0 hv) (by rw [e]; exact c_R_lead_1 l E _ (S 16) (by rfl) hJ.w16 t ht2 v hv0 hv) ?_ (by decide) (by decide)
        exact J_row hJ (WF_free hJ.w0 (by have := hJ.w0.wl; omega)) (WF_free hJ.w16 (by have := hJ.w16.wl; omega)) (hJ.e.up _ (by omega) (by omega))
      · exact qOp_xx (c_X_lead_b1 l E S (S 0) (S 14) rfl rfl hJ.w0 _ _ h) (c_R_lead_b1 l E _ (S 16) (by rfl) hJ.w16 (S 19) (by rfl) _ _ (fun z => h ⟨(isW_e hJ.e).mpr z.1, z.2⟩)) (J_fn hJ 0 (by decide)) (by decide) (by decide)
    · by_cases h : isW (S 0) a1 ∧ inR 1 5 a3
      · obtain ⟨t, ht, rfl⟩ := isW_n hJ.w0 h.1
        obtain ⟨v, hv0, hv, rfl⟩ := inR_n (by decide) h.2
        have ht2 : t < nW (S 16) := by rw [← hJ.e.nW]; exact ht
        have e := hJ.e.2.2 t 2 ht (by omega)
        refine qOp_xx (c_X_lead_2 l E S (S 0) (S 14) rfl rfl hJ.w0 t ht v hv0 hv) (by rw [e]; exact c_R_lead_2 l E _ (S 16) (by rfl) hJ.w16 t ht2 v hv0 hv) ?_ (by decide) (by decide)
        exact J_row hJ (WF_wp hJ.w0 (by have := hJ.w0.wl; omega) hv0 hv) (WF_wp hJ.w16 (by have := hJ.w16.wl; omega) hv0 hv) (hJ.e.up _ (by omega) (by omega))
      · exact qOp_xx (c_X_lead_b2 l E S (S 0) (S 14) rfl rfl hJ.w0 _ _ h) (c_R_lead_b2 l E _ (S 16) (by rfl) hJ.w16 (S 19) (by rfl) _ _ (fun z => h ⟨(isW_e hJ.e).mpr z.1, z.2⟩)) (J_fn hJ 0 (by decide)) (by decide) (by decide)
    · by_cases h : isW (S 0) a1 ∧ inR 0 255 a3
      · obtain ⟨t, ht, rfl⟩ := isW_n hJ.w0 h.1
        obtain ⟨v, hv0, hv, rfl⟩ := inR_n (by decide) h.2
        have ht2 : t < nW (S 16) := by rw [← hJ.e.nW]; exact ht
        have e := hJ.e.2.2 t 3 ht (by omega)
        refine qOp_xx (c_X_lead_3 l E S (S 0) (S 14) rfl rfl hJ.w0 t ht v hv0 hv) (by rw [e]; exact c_R_lead_3 l E _ (S 16) (by rfl) hJ.w16 t ht2 v hv0 hv) ?_ (by decide) (by decide)
        exact J_row hJ (WF_free hJ.w0 (by have := hJ.w0.wl; omega)) (WF_free hJ.w16 (by have := hJ.w16.wl; omega)) (hJ.e.up _ (by omega) (by omega))
      · exact qOp_xx (c_X_lead_b3 l E S (S 0) (S 14) rfl rfl hJ.w0 _ _ h) (c_R_lead_b3 l E _ (S 16) (by rfl) hJ.w16 (S 19) (by rfl) _ _ (fun z => h ⟨(isW_e hJ.e).mpr z.1, z.2⟩)) (J_fn hJ 0 (by decide)) (by decide) (by decide)
    · by_cases h : isW (S 0) a1 ∧ inR 0 9999 a3
      · obtain ⟨t, ht, rfl⟩ := isW_n hJ.w0 h.1
        obtain ⟨v, hv0, hv, rfl⟩ := inR_n (by decide) h.2
        have ht2 : t < nW (S 16) := by rw [← hJ.e.nW]; exact ht
        have e := hJ.e.2.2 t 4 ht (by omega)
        refine qOp_xx (c_X_lead_4 l E S (S 0) (S 14) rfl rfl hJ.w0 t ht v hv0 hv) (by rw [e]; exact c_R_lead_4 l E _ (S 16) (by rfl) hJ.w16 t ht2 v hv0 hv) ?_ (by decide) (by decide)
        exact J_row hJ (WF_free hJ.w0 (by have := hJ.w0.wl; omega)) (WF_free hJ.w16 (by have := hJ.w16.wl; omega)) (hJ.e.up _ (by omega) (by omega))
      · exact qOp_xx (c_X_lead_b4 l E S (S 0) (S 14) rfl rfl hJ.w0 _ _ h) (c_R_lead_b4 l E _ (S 16) (by rfl) hJ.w16 (S 19) (by rfl) _ _ (fun z => h ⟨(isW_e hJ.e).mpr z.1, z.2⟩)) (J_fn hJ 0 (by decide)) (by decide) (by decide)
    · by_cases h : isW (S 0) a1 ∧ inR 0 9999 a3
      · obtain ⟨t, ht, rfl⟩ := isW_n hJ.w0 h.1
        obtain ⟨v, hv0, hv, rfl⟩ := inR_n (by decide) h.2
        have ht2 : t < nW (S 16) := by rw [← hJ.e.nW]; exact ht
        have e := hJ.e.2.2 t 5 ht (by omega)
        refine qOp_xx (c_X_lead_5 l E S (S 0) (S 14) rfl rfl hJ.w0 t ht v hv0 hv) (by rw [e]; exact c_R_lead_5 l E _ (S 16) (by rfl) hJ.w16 t ht2 v hv0 hv) ?_ (by decide) (by decide)
        exact J_row hJ (WF_free hJ.w0 (by have := hJ.w0.wl; omega)) (WF_free hJ.w16 (by have := hJ.w16.wl; omega)) (hJ.e.up _ (by omega) (by omega))
      · exact qOp_xx (c_X_lead_b5 l E S (S 0) (S 14) rfl rfl hJ.w0 _ _ h) (c_R_lead_b5 l E _ (S 16) (by rfl) hJ.w16 (S 19) (by rfl) _ _ (fun z => h ⟨(isW_e hJ.e).mpr z.1, z.2⟩)) (J_fn hJ 0 (by decide)) (by decide) (by decide)
  · exact qOp_xx (c_X_lead_b l E S (S 0) (S 14) rfl rfl hJ.w0 _ _ _ (fun z => h2 z.2)) (c_R_lead_b l E _ (S 16) (by rfl) hJ.w16 (S 19) (by rfl) _ _ _ (fun z => h2 z.2)) (J_fn hJ 0 (by decide)) (by decide) (by decide)
theorem op_sees (E : QE) (l : Launch) : qH_sees E l qJ := by
  intro S hJ a1
  by_cases h : isW (S 0) a1
  · obtain ⟨t, ht, rfl⟩ := isW_n hJ.w0 h
    exact qOp_xx (c_X_sees_g l E S (S 0) (S 14) rfl rfl hJ.w0 t ht) (by rw [seeS_e hJ.e ht]; exact c_R_sees_g l E _ (S 16) (by rfl) hJ.w16 t (by rw [← hJ.e.nW]; exact ht)) hJ (by decide) (by decide)
  · exact qOp_xx (c_X_sees_b l E S (S 0) (S 14) rfl rfl hJ.w0 _ h) (c_R_sees_b l E _ (S 16) (by rfl) hJ.w16 (S 19) (by rfl) _ (fun z => h ((isW_e hJ.e).mpr z))) (J_fn hJ 0 (by decide)) (by decide) (by decide)
theorem op_seenBy (E : QE) (l : Launch) : qH_seenBy E l qJ := by
  intro S hJ a1
  by_cases h : isT (S 0) a1
  · obtain ⟨t, ht, rfl⟩ := isT_n hJ.w0 h
    exact qOp_xx (c_X_seenBy_g l E S (S 0) (S 14) rfl rfl hJ.w0 t ht) (by rw [snbS_e hJ.e ht]; exact c_R_seenBy_g l E _ (S 16) (by rfl) hJ.w16 t (by rw [← hJ.e.nT]; exact ht)) hJ (by decide) (by decide)
  · exact qOp_xx (c_X_seenBy_b l E S (S 0) (S 14) rfl rfl hJ.w0 _ h) (c_R_seenBy_b l E _ (S 16) (by rfl) hJ.w16 (S 19) (by rfl) _ (fun z => h ((isT_e hJ.e).mpr z))) (J_fn hJ 0 (by decide)) (by decide) (by decide)
theorem op_go (E : QE) (l : Launch) : qH_go E l qJ := by
  intro S hJ a1
  by_cases h : inR 1 60 a1
  · obtain ⟨n, h1, hn, rfl⟩ := inR_n (by decide) h
    have ed := hJ.e.nD
    by_cases hs : nD (S 0) ≤ 99999 - n
    · refine qOp_xx (c_X_go_g l E S (S 0) (S 14) rfl rfl hJ.w0 n h1 hn hs) (by rw [sumS_e (daysS_e hJ.e hJ.w0 n) (by omega)]; exact c_R_go_g l E _ (S 16) (by rfl) hJ.w16 n h1 hn (by omega)) ?_ (by decide) (by decide)
      exact J_row hJ ((days_ok hJ.w0 n).1) ((days_ok hJ.w16 n).1) (daysS_e hJ.e hJ.w0 n)
    · exact qOp_xx (c_X_go_s l E S (S 0) (S 14) rfl rfl hJ.w0 n h1 hn hs) (c_R_go_s l E _ (S 16) (by rfl) hJ.w16 (S 19) (by rfl) n h1 hn (by omega)) (J_fn hJ 4 (by decide)) (by decide) (by decide)
  · exact qOp_xx (c_X_go_b l E S (S 0) (S 14) rfl rfl hJ.w0 _ h) (c_R_go_b l E _ (S 16) (by rfl) hJ.w16 (S 19) (by rfl) _ h) (J_fn hJ 0 (by decide)) (by decide) (by decide)
theorem op_morning (E : QE) (l : Launch) : qH_morning E l qJ := by
  intro S hJ a1
  by_cases h : inR 1 20 a1
  · obtain ⟨n, h1, hn, rfl⟩ := inR_n (by decide) h
    have ed := hJ.e.nD
    by_cases hs : nD (S 0) ≤ 99999 - n
    · refine qOp_xx (c_X_morning_g l E S (S 0) (S 14) rfl rfl hJ.w0 n h1 hn hs) (by rw [sumS_e (mrns_e hJ.e hJ.w0 n) (by omega)]; exact c_R_morning_g l E _ (S 16) (by rfl) hJ.w16 n h1 hn (by omega)) ?_ (by decide) (by decide)
      exact J_row hJ (mrns_ok hJ.w0 n) (mrns_ok hJ.w16 n) (mrns_e hJ.e hJ.w0 n)
    · exact qOp_xx (c_X_morning_s l E S (S 0) (S 14) rfl rfl hJ.w0 n h1 hn hs) (c_R_morning_s l E _ (S 16) (by rfl) hJ.w16 (S 19) (by rfl) n h1 hn (by omega)) (J_fn hJ 4 (by decide)) (by decide) (by decide)
  · exact qOp_xx (c_X_morning_b l E S (S 0) (S 14) rfl rfl hJ.w0 _ h) (c_R_morning_b l E _ (S 16) (by rfl) hJ.w16 (S 19) (by rfl) _ h) (J_fn hJ 0 (by decide)) (by decide) (by decide)
theorem op_now (E : QE) (l : Launch) : qH_now E l qJ := by
  intro S hJ a1
  by_cases h : inR 0 7 a1
  · obtain ⟨j, -, hj, rfl⟩ := inR_n (by decide) h
    rcases (show j = 0 ∨ j = 1 ∨ j = 2 ∨ j = 3 ∨ j = 4 ∨ j = 5 ∨ j = 6 ∨ j = 7 by omega) with rfl | rfl | rfl | rfl | rfl | rfl | rfl | rfl
    · exact qOp_xx (c_X_now_0 l E S (S 0) (S 14) rfl rfl hJ.w0 ) (by rw [hJ.e.1 0 (by omega)]; exact c_R_now_0 l E _ (S 16) (by rfl) hJ.w16) hJ (by decide) (by decide)
    · exact qOp_xx (c_X_now_1 l E S (S 0) (S 14) rfl rfl hJ.w0 ) (by rw [sumS_e hJ.e (f := 4) (by omega)]; exact c_R_now_1 l E _ (S 16) (by rfl) hJ.w16) hJ (by decide) (by decide)
    · exact qOp_xx (c_X_now_2 l E S (S 0) (S 14) rfl rfl hJ.w0 ) (by rw [sumS_e hJ.e (f := 5) (by omega)]; exact c_R_now_2 l E _ (S 16) (by rfl) hJ.w16) hJ (by decide) (by decide)
    · exact qOp_xx (c_X_now_3 l E S (S 0) (S 14) rfl rfl hJ.w0 ) (by rw [gdds_e hJ.e hJ.w0]; exact c_R_now_3 l E _ (S 16) (by rfl) hJ.w16) hJ (by decide) (by decide)
    · exact qOp_xx (c_X_now_4 l E S (S 0) (S 14) rfl rfl hJ.w0 ) (by rw [carS_e hJ.e]; exact c_R_now_4 l E _ (S 16) (by rfl) hJ.w16) hJ (by decide) (by decide)
    · exact qOp_xx (c_X_now_5 l E S (S 0) (S 14) rfl rfl hJ.w0 ) (by rw [wcsS_e hJ.e]; exact c_R_now_5 l E _ (S 16) (by rfl) hJ.w16) hJ (by decide) (by decide)
    · exact qOp_xx (c_X_now_6 l E S (S 0) (S 14) rfl rfl hJ.w0 ) (by rw [tcsS_e hJ.e]; exact c_R_now_6 l E _ (S 16) (by rfl) hJ.w16) hJ (by decide) (by decide)
    · exact qOp_xx (c_X_now_7 l E S (S 0) (S 14) rfl rfl hJ.w0 ) (by rw [unsS_e hJ.e]; exact c_R_now_7 l E _ (S 16) (by rfl) hJ.w16) hJ (by decide) (by decide)
  · exact qOp_xx (c_X_now_b l E S (S 0) (S 14) rfl rfl hJ.w0 _ h) (c_R_now_b l E _ (S 16) (by rfl) hJ.w16 (S 19) (by rfl) _ h) (J_fn hJ 0 (by decide)) (by decide) (by decide)
theorem op_seed (E : QE) (l : Launch) : qH_seed E l qJ := by
  intro S hJ a1
  have e := hJ.e.1 2 (by omega)
  refine qOp_xx (c_X_seed l E S (S 0) (S 14) rfl rfl hJ.w0 a1) (by rw [e]; exact c_R_seed l E _ (S 16) (by rfl) hJ.w16 a1) ?_ (by decide) (by decide)
  exact J_row hJ (WF_free hJ.w0 (by omega)) (WF_free hJ.w16 (by omega)) (hJ.e.up _ (by omega) (by omega))
