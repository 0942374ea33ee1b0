theorem op_sheet (E : QE) (l : Launch) : qH_sheet E l qJ := by
  intro S hJ a1 a2 a3
  by_cases h : inR 0 3 a1 ∧ (a2 = 0 ∨ a2 = nI 8 ∨ a2 = nI 16 ∨ a2 = nI 32)
  · obtain ⟨j, -, hj, rfl⟩ := inR_n (by decide) h.1
    have hj4 : j < 4 := by omega
    rcases h.2 with h0 | h0 | h0 | h0
    · have h0 : a2 = nI 0 := h0
      subst h0
      by_cases hz : a3 < 0
      · exact qOp_xx (c_X_sheet_n0 l E S (S 0) (S 14) rfl rfl hJ.w0 j hj4 a3 hz) (c_R_sheet_n l E _ (S 22) (S 23) (S 24) (S 19) (by rfl) (by rfl) (by rfl) (by rfl) j hj4 _ a3 (Or.inl rfl) hz) (J_fn hJ 6 (by decide)) (by decide) (by decide)
      · by_cases hm : a3 ≤ nI 40
        · obtain ⟨n, -, hn, rfl⟩ := inR_n (lo := 0) (hi := 40) (by decide) ⟨Int32.not_lt.mp hz, hm⟩
          refine qOp_xx (c_X_sheet_0 l E S (S 0) (S 14) rfl rfl hJ.w0 j (S (6 + j)) (S (10 + j)) hj4 rfl rfl n hn) (c_R_sheet_0 l E _ (S 22) (S 23) (S 24) (S 19) (by rw [qr_ne (by omega), qr_ne (by omega)]) (by rw [qr_ne (by omega), qr_ne (by omega)]) (by rw [qr_ne (by omega), qr_ne (by omega)]) (by rw [qr_ne (by omega), qr_ne (by omega)]) j hj4 (nI 0) n hn rfl) ?_ (by decide) (by decide)
          exact J_sheet hJ hj4 (n := 0) (by decide) (nI 0)
        · exact qOp_xx (c_X_sheet_m0 l E S (S 0) (S 14) rfl rfl hJ.w0 j hj4 a3 hz hm) (c_R_sheet_f l E _ (S 22) (S 23) (S 24) (S 19) (by rfl) (by rfl) (by rfl) (by rfl) j hj4 _ a3 (Or.inl rfl) hz (Int32.not_le.mp hm)) (J_fn hJ 0 (by decide)) (by decide) (by decide)
    · have h0 : a2 = nI 8 := h0
      subst h0
      by_cases hz : a3 < 0
      · exact qOp_xx (c_X_sheet_n8 l E S (S 0) (S 14) rfl rfl hJ.w0 j hj4 a3 hz) (c_R_sheet_n l E _ (S 22) (S 23) (S 24) (S 19) (by rfl) (by rfl) (by rfl) (by rfl) j hj4 _ a3 (Or.inr (Or.inl rfl)) hz) (J_fn hJ 6 (by decide)) (by decide) (by decide)
      · by_cases hm : a3 ≤ nI 40
        · obtain ⟨n, -, hn, rfl⟩ := inR_n (lo := 0) (hi := 40) (by decide) ⟨Int32.not_lt.mp hz, hm⟩
          refine qOp_xx (c_X_sheet_8 l E S (S 0) (S 14) rfl rfl hJ.w0 j (S (6 + j)) (S (10 + j)) hj4 rfl rfl n hn) (c_R_sheet_g l E _ (S 22) (S 23) (S 24) (S 19) (by rw [qr_ne (by omega), qr_ne (by omega)]) (by rw [qr_ne (by omega), qr_ne (by omega)]) (by rw [qr_ne (by omega), qr_ne (by omega)]) (by rw [qr_ne (by omega), qr_ne (by omega)]) j hj4 (nI 8) n hn (Or.inl rfl) (by decide)) ?_ (by decide) (by decide)
          exact J_sheet hJ hj4 hn (nI 8)
        · exact qOp_xx (c_X_sheet_m8 l E S (S 0) (S 14) rfl rfl hJ.w0 j hj4 a3 hz hm) (c_R_sheet_f l E _ (S 22) (S 23) (S 24) (S 19) (by rfl) (by rfl) (by rfl) (by rfl) j hj4 _ a3 (Or.inr (Or.inl rfl)) hz (Int32.not_le.mp hm)) (J_fn hJ 0 (by decide)) (by decide) (by decide)
    · have h0 : a2 = nI 16 := h0
      subst h0
      by_cases hz : a3 < 0
      · exact qOp_xx (c_X_sheet_n16 l E S (S 0) (S 14) rfl rfl hJ.w0 j hj4 a3 hz) (c_R_sheet_n l E _ (S 22) (S 23) (S 24) (S 19) (by rfl) (by rfl) (by rfl) (by rfl) j hj4 _ a3 (Or.inr (Or.inr (Or.inl rfl))) hz) (J_fn hJ 6 (by decide)) (by decide) (by decide)
      · by_cases hm : a3 ≤ nI 40
        · obtain ⟨n, -, hn, rfl⟩ := inR_n (lo := 0) (hi := 40) (by decide) ⟨Int32.not_lt.mp hz, hm⟩
          refine qOp_xx (c_X_sheet_16 l E S (S 0) (S 14) rfl rfl hJ.w0 j (S (6 + j)) (S (10 + j)) hj4 rfl rfl n hn) (c_R_sheet_g l E _ (S 22) (S 23) (S 24) (S 19) (by rw [qr_ne (by omega), qr_ne (by omega)]) (by rw [qr_ne (by omega), qr_ne (by omega)]) (by rw [qr_ne (by omega), qr_ne (by omega)]) (by rw [qr_ne (by omega), qr_ne (by omega)]) j hj4 (nI 16) n hn (Or.inr (Or.inl rfl)) (by decide)) ?_ (by decide) (by decide)
          exact J_sheet hJ hj4 hn (nI 16)
        · exact qOp_xx (c_X_sheet_m16 l E S (S 0) (S 14) rfl rfl hJ.w0 j hj4 a3 hz hm) (c_R_sheet_f l E _ (S 22) (S 23) (S 24) (S 19) (by rfl) (by rfl) (by rfl) (by rfl) j hj4 _ a3 (Or.inr (Or.inr (Or.inl rfl))) hz (Int32.not_le.mp hm)) (J_fn hJ 0 (by decide)) (by decide) (by decide)
    · have h0 : a2 = nI 32 := h0
      subst h0
      by_cases hz : a3 < 0
      · exact qOp_xx (c_X_sheet_n32 l E S (S 0) (S 14) rfl rfl hJ.w0 j hj4 a3 hz) (c_R_sheet_n l E _ (S 22) (S 23) (S 24) (S 19) (by rfl) (by rfl) (by rfl) (by rfl) j hj4 _ a3 (Or.inr (Or.inr (Or.inr rfl))) hz) (J_fn hJ 6 (by decide)) (by decide) (by decide)
      · by_cases hm : a3 ≤ nI 40
        · obtain ⟨n, -, hn, rfl⟩ := inR_n (lo := 0) (hi := 40) (by decide) ⟨Int32.not_lt.mp hz, hm⟩
          refine qOp_xx (c_X_sheet_32 l E S (S 0) (S 14) rfl rfl hJ.w0 j (S (6 + j)) (S (10 + j)) hj4 rfl rfl n hn) (c_R_sheet_g l E _ (S 22) (S 23) (S 24) (S 19) (by rw [qr_ne (by omega), qr_ne (by omega)]) (by rw [qr_ne (by omega), qr_ne (by omega)]) (by rw [qr_ne (by omega), qr_ne (by omega)]) (by rw [qr_ne (by omega), qr_ne (by omega)]) j hj4 (nI 32) n hn (Or.inr (Or.inr rfl)) (by decide)) ?_ (by decide) (by decide)
          exact J_sheet hJ hj4 hn (nI 32)
        · exact qOp_xx (c_X_sheet_m32 l E S (S 0) (S 14) rfl rfl hJ.w0 j hj4 a3 hz hm) (c_R_sheet_f l E _ (S 22) (S 23) (S 24) (S 19) (by rfl) (by rfl) (by rfl) (by rfl) j hj4 _ a3 (Or.inr (Or.inr (Or.inr rfl))) hz (Int32.not_le.mp hm)) (J_fn hJ 0 (by decide)) (by decide) (by decide)
  · exact qOp_xx (c_X_sheet_b l E S (S 0) (S 14) rfl rfl hJ.w0 _ _ _ (fun z => h ⟨z.1, by rcases z.2 with ((y | y) | y) | y; exact Or.inl y; exact Or.inr (Or.inl y); exact Or.inr (Or.inr (Or.inl y)); exact Or.inr (Or.inr (Or.inr y))⟩)) (c_R_sheet_b l E _ (S 22) (S 23) (S 24) (S 19) (by rfl) (by rfl) (by rfl) (by rfl) _ _ _ h) (J_fn hJ 0 (by decide)) (by decide) (by decide)
theorem op_write (E : QE) (l : Launch) : qH_write E l qJ := by
  intro S hJ a1 a2 a3
  by_cases h : inR 0 3 a1
  · obtain ⟨j, -, hj, rfl⟩ := inR_n (by decide) h
    have hj4 : j < 4 := by omega
    obtain ⟨s1, s2, ⟨sz, hsz, e2⟩, s4⟩ := hJ.s j hj4
    by_cases hb : S (6 + j) 1 = 0
    · exact qOp_xx (c_X_write_lb l E S (S 0) (S 14) rfl rfl hJ.w0 j (S (6 + j)) hj4 rfl hb a2 a3) (c_R_write_m l E _ (S 22) (S 23) (S 24) (S 19) (by rfl) (by rfl) (by rfl) (by rfl) j hj4 (s1.trans hb) a2 a3) (J_fn hJ 5 (by decide)) (by decide) (by decide)
    · have hb2 : ¬ S 22 j = 0 := fun z => hb (s1.symm.trans z)
      by_cases hx : nI 0 ≤ a2 ∧ a2 ≤ nI sz - nI 1
      · obtain ⟨i, hi, rfl⟩ := ile_sub_i (by omega) hx
        refine qOp_xx (c_X_write_g l E S (S 0) (S 14) rfl rfl hJ.w0 j sz (S (6 + j)) (S (10 + j)) hj4 rfl rfl hb e2 hsz i hi a3) (c_R_write_g l E _ (S 22) (S 23) (S 24) (S 19) (by rw [qr_ne (by omega)]) (by rw [qr_ne (by omega)]) (by rw [qr_ne (by omega)]) (by rw [qr_ne (by omega)]) j sz hj4 (s2.trans e2) hsz hb2 i a3 hi) ?_ (by decide) (by decide)
        rw [s1]
        exact J_write hJ hj4 (by omega) _
      · exact qOp_xx (c_X_write_b l E S (S 0) (S 14) rfl rfl hJ.w0 j sz (S (6 + j)) (S (10 + j)) hj4 rfl rfl hb e2 hsz a2 a3 hx) (c_R_write_i l E _ (S 22) (S 23) (S 24) (S 19) (by rfl) (by rfl) (by rfl) (by rfl) j sz hj4 (s2.trans e2) hsz hb2 a2 a3 hx) (J_fn hJ 0 (by decide)) (by decide) (by decide)
  · exact qOp_xx (c_X_write_la l E S (S 0) (S 14) rfl rfl hJ.w0 _ _ _ h) (c_R_write_b l E _ (S 22) (S 23) (S 24) (S 19) (by rfl) (by rfl) (by rfl) (by rfl) _ _ _ h) (J_fn hJ 0 (by decide)) (by decide) (by decide)
theorem op_copy (E : QE) (l : Launch) : qH_copy E l qJ := by
  intro S hJ a1 a2 a3 a4 a5
  by_cases h : inR 0 3 a1 ∧ inR 0 3 a3
  · obtain ⟨j, -, hj, rfl⟩ := inR_n (by decide) h.1
    have hj4 : j < 4 := by omega
    obtain ⟨s1, s2, ⟨sz, hsz, e2⟩, s4⟩ := hJ.s j hj4
    obtain ⟨i, -, hi, rfl⟩ := inR_n (by decide) h.2
    have hi4 : i < 4 := by omega
    obtain ⟨t1, t2, ⟨tz, htz, d2⟩, t4⟩ := hJ.s i hi4
    by_cases hb : S (6 + j) 1 = 0 ∨ S (6 + i) 1 = 0
    · exact qOp_xx (c_X_copy_m l E S (S 0) (S 14) rfl rfl hJ.w0 j i (S (6 + j)) (S (6 + i)) (S (10 + j)) (S (10 + i)) hj4 hi4 rfl rfl rfl rfl a2 a4 a5 hb) (c_R_copy_m l E _ (S 22) (S 23) (S 24) (S 19) (by rfl) (by rfl) (by rfl) (by rfl) j i hj4 hi4 a2 a4 a5 (by rw [s1, t1]; exact hb)) (J_fn hJ 5 (by decide)) (by decide) (by decide)
    · have hb1 : ¬ S (6 + j) 1 = 0 := fun z => hb (Or.inl z)
      have hc1 : ¬ S (6 + i) 1 = 0 := fun z => hb (Or.inr z)
      have hb2 : ¬ S 22 j = 0 := by rw [s1]; exact hb1
      have hc2 : ¬ S 22 i = 0 := by rw [t1]; exact hc1
      by_cases hd : S (6 + j) 1 = S (6 + i) 1
      · have hd2 : S 22 j = S 22 i := by rw [s1, t1]; exact hd
        by_cases he : hasS a2 a5 (S (6 + j) 2) ∧ hasS a4 a5 (S (6 + i) 2)
        · obtain ⟨f, n, h4, rfl, rfl⟩ := has_n (by omega) e2 he.1
          obtain ⟨q, m2, h5, rfl, em⟩ := has_n (by omega) d2 he.2
          have em : n = m2 := (nI_eq (a := n) (b := m2) (by omega) (by omega)).mp em
          subst em
          refine qOp_pp (d2 := 3) (P' := fun u v => ∃ μ, v = qr (qr u 25 μ) 24 (cpy (S 24) (40 * j + f) (S 24) (40 * i + q) n)) (qCPi_I (c_X_copy_g l E S (S 0) (S 14) rfl rfl hJ.w0 j i (S (6 + j)) (S (6 + i)) (S (10 + j)) (S (10 + i)) hj4 hi4 rfl rfl rfl rfl f q n sz tz hb1 hc1 hd e2 d2 hsz htz h4 h5)) (fun u hu => ?_) (fun u hu v hv => ?_) (by decide) (by decide)
          · subst hu
            exact c_R_copy_g l E _ (S 22) (S 23) (S 24) (S 19) (by rw [qr_ne (by omega)]) (by rw [qr_ne (by omega)]) (by rw [qr_ne (by omega)]) (by rw [qr_ne (by omega)]) _ (by rfl) j i hj4 hi4 f q n hb2 hc2 hd2 sz tz (s2.trans e2) (t2.trans d2) hsz htz h4 h5
          · subst hu
            obtain ⟨μ, rfl⟩ := hv
            exact J_copy hJ hj4 hi4 (by omega) (by omega) μ
        · exact qOp_xx (c_X_copy_s l E S (S 0) (S 14) rfl rfl hJ.w0 j i (S (6 + j)) (S (6 + i)) (S (10 + j)) (S (10 + i)) hj4 hi4 rfl rfl rfl rfl a2 a4 a5 hb1 hc1 hd he) (c_R_copy_s l E _ (S 22) (S 23) (S 24) (S 19) (by rfl) (by rfl) (by rfl) (by rfl) j i hj4 hi4 a2 a4 a5 hb2 hc2 hd2 sz tz (s2.trans e2) (t2.trans d2) hsz htz (by rw [← e2, ← d2]; exact he)) (J_fn hJ 0 (by decide)) (by decide) (by decide)
      · exact qOp_xx (c_X_copy_k l E S (S 0) (S 14) rfl rfl hJ.w0 j i (S (6 + j)) (S (6 + i)) (S (10 + j)) (S (10 + i)) hj4 hi4 rfl rfl rfl rfl a2 a4 a5 hb1 hc1 hd) (c_R_copy_k l E _ (S 22) (S 23) (S 24) (S 19) (by rfl) (by rfl) (by rfl) (by rfl) j i hj4 hi4 a2 a4 a5 hb2 hc2 (by rw [s1, t1]; exact hd)) (J_fn hJ 2 (by decide)) (by decide) (by decide)
  · exact qOp_xx (c_X_copy_b l E S (S 0) (S 14) rfl rfl hJ.w0 _ _ _ _ _ h) (c_R_copy_b l E _ (S 22) (S 23) (S 24) (S 19) (by rfl) (by rfl) (by rfl) (by rfl) _ _ _ _ _ h) (J_fn hJ 0 (by decide)) (by decide) (by decide)
theorem op_load (E : QE) (l : Launch) : qH_load E l qJ := by
  intro S hJ a1
  by_cases h : inR 0 3 a1
  · obtain ⟨j, -, hj, rfl⟩ := inR_n (by decide) h
    have hj4 : j < 4 := by omega
    obtain ⟨s1, s2, ⟨sz, hsz, e2⟩, s4⟩ := hJ.s j hj4
    by_cases hb : S (6 + j) 1 = 0
    · exact qOp_xx (c_X_load_lb l E S (S 0) (S 14) rfl rfl hJ.w0 j (S (6 + j)) hj4 rfl hb) (c_R_load_lb l E _ (S 16) (by rfl) hJ.w16 (S 22) (S 23) (S 24) (S 19) (by rfl) (by rfl) (by rfl) (by rfl) j hj4 (s1.trans hb)) (J_fn hJ 5 (by decide)) (by decide) (by decide)
    · have hb2 : ¬ S 22 j = 0 := fun z => hb (s1.symm.trans z)
      have e : ldN (S 0) (S (10 + j)) sz = ldN (S 16) (shr (S 24) j) sz := ldN_e hJ.e s4
      have hl : ldN (S 16) (shr (S 24) j) sz ≤ 6 := Nat.le_trans ldN_le hJ.w16.wl
      refine qOp_xx (c_X_load_g l E S (S 0) (S 14) rfl rfl hJ.w0 j sz (S (6 + j)) (S (10 + j)) hj4 rfl rfl hb e2 hsz) (by rw [e]; exact c_R_load_g l E _ (S 16) (by rfl) hJ.w16 (S 22) (S 23) (S 24) (S 19) (by rfl) (by rfl) (by rfl) (by rfl) j sz hj4 (s2.trans e2) hsz hb2) ?_ (by decide) (by decide)
      exact J_row hJ (ldR_ok hJ.w0 _ hl).1 (ldR_ok hJ.w16 _ hl).1 (ldR_e hJ.e s4 _ (by omega))
  · exact qOp_xx (c_X_load_la l E S (S 0) (S 14) rfl rfl hJ.w0 _ h) (c_R_load_la l E _ (S 16) (by rfl) hJ.w16 (S 22) (S 23) (S 24) (S 19) (by rfl) (by rfl) (by rfl) (by rfl) _ h) (J_fn hJ 0 (by decide)) (by decide) (by decide)
theorem op_judge (E : QE) (l : Launch) : qH_judge E l qJ := by
  intro S hJ a1
  by_cases h : inR 0 3 a1
  · obtain ⟨j, -, hj, rfl⟩ := inR_n (by decide) h
    have hj4 : j < 4 := by omega
    obtain ⟨s1, s2, ⟨sz, hsz, e2⟩, s4⟩ := hJ.s j hj4
    by_cases hb : S (6 + j) 1 = 0
    · exact qOp_xx (c_X_judge_lb l E S (S 0) (S 14) rfl rfl hJ.w0 j (S (6 + j)) hj4 rfl hb) (c_R_judge_lb l E _ (S 16) (by rfl) hJ.w16 (S 22) (S 23) (S 24) (S 19) (by rfl) (by rfl) (by rfl) (by rfl) j hj4 (s1.trans hb)) (J_fn hJ 5 (by decide)) (by decide) (by decide)
    · have hb2 : ¬ S 22 j = 0 := fun z => hb (s1.symm.trans z)
      have e : lst (fun i => ¬ (i < nW (S 0) ∧ S 0 (44 + 6 * i) = S (10 + j) i)) sz 0 = lst (fun i => ¬ (i < nW (S 16) ∧ S 16 (44 + 6 * i) = shr (S 24) j i)) sz 0 := by
        refine lst_c _ _ (fun i h1 h2 => ?_)
        rw [← hJ.e.nW, s4 i (by omega)]
        by_cases c : i < nW (S 0)
        · have e6 := hJ.e.2.2 i 0 c (by omega)
          rw [Nat.add_zero] at e6
          rw [e6]
        · exact ⟨fun _ y => c y.1, fun _ y => c y.1⟩
      by_cases hF : lst (fun i => ¬ (i < nW (S 0) ∧ S 0 (44 + 6 * i) = S (10 + j) i)) sz 0 = sz
      · exact qOp_xx (c_X_judge_g l E S (S 0) (S 14) rfl rfl hJ.w0 j sz (S (6 + j)) (S (10 + j)) hj4 rfl rfl hb e2 hsz hF) (c_R_judge_g l E _ (S 16) (by rfl) hJ.w16 (S 22) (S 23) (S 24) (S 19) (by rfl) (by rfl) (by rfl) (by rfl) j sz hj4 (s2.trans e2) hsz hb2 (by rw [← e]; exact hF)) hJ (by decide) (by decide)
      · exact qOp_xx (c_X_judge_n l E S (S 0) (S 14) rfl rfl hJ.w0 j sz (S (6 + j)) (S (10 + j)) hj4 rfl rfl hb e2 hsz hF) (by rw [e]; exact c_R_judge_n l E _ (S 16) (by rfl) hJ.w16 (S 22) (S 23) (S 24) (S 19) (by rfl) (by rfl) (by rfl) (by rfl) j sz hj4 (s2.trans e2) hsz hb2 (by rw [← e]; exact hF)) hJ (by decide) (by decide)
  · exact qOp_xx (c_X_judge_la l E S (S 0) (S 14) rfl rfl hJ.w0 _ h) (c_R_judge_la l E _ (S 16) (by rfl) hJ.w16 (S 22) (S 23) (S 24) (S 19) (by rfl) (by rfl) (by rfl) (by rfl) _ h) (J_fn hJ 0 (by decide)) (by decide) (by decide)
theorem op_fits (E : QE) (l : Launch) : qH_fits E l qJ := by
  intro S hJ a1 a2
  by_cases h : inR 0 3 a1
  · obtain ⟨j, -, hj, rfl⟩ := inR_n (by decide) h
    have hj4 : j < 4 := by omega
    obtain ⟨s1, s2, ⟨sz, hsz, e2⟩, s4⟩ := hJ.s j hj4
    by_cases hb : S (6 + j) 1 = 0
    · exact qOp_xx (c_X_fits_lb l E S (S 0) (S 14) rfl rfl hJ.w0 j (S (6 + j)) hj4 rfl hb a2) (c_R_fits_lb l E _ (S 16) (by rfl) hJ.w16 (S 22) (S 23) (S 24) (S 19) (by rfl) (by rfl) (by rfl) (by rfl) j a2 hj4 (s1.trans hb)) (J_fn hJ 5 (by decide)) (by decide) (by decide)
    · have hb2 : ¬ S 22 j = 0 := fun z => hb (s1.symm.trans z)
      by_cases hx : isW (S 0) a2
      · obtain ⟨t, ht, rfl⟩ := isW_n hJ.w0 hx
        have ht2 : t < nW (S 16) := by rw [← hJ.e.nW]; exact ht
        have e : setS (fun i => goesS (upd (S 0) (44 + 6 * t) (nI i)) sz (S (10 + j)) (44 + 6 * t)) 16 = setS (fun i => goesS (upd (S 16) (44 + 6 * t) (nI i)) sz (shr (S 24) j) (44 + 6 * t)) 16 := setS_c rfl (fun i hi => (goesS_w (hJ.e.up (p := 44 + 6 * t) (nI i) (by omega) (by omega)) (WF_wc hJ.w0 (by have := hJ.w0.wl; omega) (by omega)) (by rw [nW_up (by omega)]; exact ht)).trans (goesS_s hsz s4))
        refine qOp_pp (d2 := 11) (P' := fun u => bhG u (S 16)) (c_X_fits_g l E S (S 0) (S 14) (S 2) rfl rfl rfl hJ.w0 j sz (S (6 + j)) (S (10 + j)) hj4 rfl rfl hb e2 hsz t ht hJ.w2) (fun u hu => ?_) (fun u hu v hv => J_any hJ hu hv) (by decide) (by decide)
        obtain ⟨τ, -, rfl⟩ := hu
        rw [e]
        exact c_R_fits_g l E _ (S 16) (by rfl) hJ.w16 _ (by rfl) (S 22) (S 23) (S 24) (S 19) (by rfl) (by rfl) (by rfl) (by rfl) j sz hj4 (s2.trans e2) hsz hb2 t ht2
      · exact qOp_xx (c_X_fits_b l E S (S 0) (S 14) rfl rfl hJ.w0 j sz (S (6 + j)) (S (10 + j)) hj4 rfl rfl hb e2 hsz a2 hx) (c_R_fits_b l E _ (S 16) (by rfl) hJ.w16 (S 22) (S 23) (S 24) (S 19) (by rfl) (by rfl) (by rfl) (by rfl) j a2 hj4 hb2 (fun z => hx ((isW_e hJ.e).mpr z))) (J_fn hJ 0 (by decide)) (by decide) (by decide)
  · exact qOp_xx (c_X_fits_la l E S (S 0) (S 14) rfl rfl hJ.w0 _ _ h) (c_R_fits_la l E _ (S 16) (by rfl) hJ.w16 (S 22) (S 23) (S 24) (S 19) (by rfl) (by rfl) (by rfl) (by rfl) _ _ h) (J_fn hJ 0 (by decide)) (by decide) (by decide)
theorem op_kinds (E : QE) (l : Launch) : qH_kinds E l qJ := by
  intro S hJ a1 a2
  by_cases h : inR 0 3 a1
  · obtain ⟨j, -, hj, rfl⟩ := inR_n (by decide) h
    have hj4 : j < 4 := by omega
    obtain ⟨s1, s2, ⟨sz, hsz, e2⟩, s4⟩ := hJ.s j hj4
    by_cases hb : S (6 + j) 1 = 0
    · exact qOp_xx (c_X_kinds_lb l E S (S 0) (S 14) rfl rfl hJ.w0 j (S (6 + j)) hj4 rfl hb a2) (c_R_kinds_lb l E _ (S 16) (by rfl) hJ.w16 (S 22) (S 23) (S 24) (S 19) (by rfl) (by rfl) (by rfl) (by rfl) j a2 hj4 (s1.trans hb)) (J_fn hJ 5 (by decide)) (by decide) (by decide)
    · have hb2 : ¬ S 22 j = 0 := fun z => hb (s1.symm.trans z)
      by_cases hx : isT (S 0) a2
      · obtain ⟨t, ht, rfl⟩ := isT_n hJ.w0 hx
        have ht2 : t < nT (S 16) := by rw [← hJ.e.nT]; exact ht
        have e : setS (fun i => goesS (upd (S 0) (20 + 3 * t) (nI i)) sz (S (10 + j)) (20 + 3 * t + 1)) 7 = setS (fun i => goesS (upd (S 16) (20 + 3 * t) (nI i)) sz (shr (S 24) j) (20 + 3 * t + 1)) 7 := setS_c rfl (fun i hi => (goesS_t (hJ.e.up (p := 20 + 3 * t) (nI i) (by omega) (by omega)) (WF_tk hJ.w0 (by have := hJ.w0.tl; omega) (by omega)) (by rw [nT_up (by omega)]; exact ht)).trans (goesS_s hsz s4))
        refine qOp_pp (d2 := 11) (P' := fun u => bhG u (S 16)) (c_X_kinds_g l E S (S 0) (S 14) (S 2) rfl rfl rfl hJ.w0 j sz (S (6 + j)) (S (10 + j)) hj4 rfl rfl hb e2 hsz t ht hJ.w2) (fun u hu => ?_) (fun u hu v hv => J_any hJ hu hv) (by decide) (by decide)
        obtain ⟨τ, -, rfl⟩ := hu
        rw [e]
        exact c_R_kinds_g l E _ (S 16) (by rfl) hJ.w16 _ (by rfl) (S 22) (S 23) (S 24) (S 19) (by rfl) (by rfl) (by rfl) (by rfl) j sz hj4 (s2.trans e2) hsz hb2 t ht2
      · exact qOp_xx (c_X_kinds_b l E S (S 0) (S 14) rfl rfl hJ.w0 j sz (S (6 + j)) (S (10 + j)) hj4 rfl rfl hb e2 hsz a2 hx) (c_R_kinds_b l E _ (S 16) (by rfl) hJ.w16 (S 22) (S 23) (S 24) (S 19) (by rfl) (by rfl) (by rfl) (by rfl) j a2 hj4 hb2 (fun z => hx ((isT_e hJ.e).mpr z))) (J_fn hJ 0 (by decide)) (by decide) (by decide)
  · exact qOp_xx (c_X_kinds_la l E S (S 0) (S 14) rfl rfl hJ.w0 _ _ h) (c_R_kinds_la l E _ (S 16) (by rfl) hJ.w16 (S 22) (S 23) (S 24) (S 19) (by rfl) (by rfl) (by rfl) (by rfl) _ _ h) (J_fn hJ 0 (by decide)) (by decide) (by decide)
