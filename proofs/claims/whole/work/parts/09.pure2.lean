def stpOK (c to p : Nat) : Bool := decide (stp (nI c) (nI to) (nI p) = nI (stp (nI c) (nI to) (nI p)).toNatClampNeg ∧ (stp (nI c) (nI to) (nI p)).toNatClampNeg ≤ 15 ∧ nI c + imx (-nI p) (imn (nI p) (nI to - nI c)) = stp (nI c) (nI to) (nI p))
theorem stp_all : ((List.range 16).all fun c => (List.range 16).all fun t => (List.range 5).all fun p => stpOK c t (p + 1)) = true := by decide +kernel
theorem stp_ok {c to p : Nat} (hc : c ≤ 15) (ht : to ≤ 15) (h1 : 1 ≤ p) (hp : p ≤ 5) : (∃ j, j ≤ 15 ∧ stp (nI c) (nI to) (nI p) = nI j) ∧ nI c + imx (-nI p) (imn (nI p) (nI to - nI c)) = stp (nI c) (nI to) (nI p) := by
  have h := List.all_eq_true.mp (List.all_eq_true.mp (List.all_eq_true.mp stp_all c (List.mem_range.mpr (by omega))) to (List.mem_range.mpr (by omega))) (p - 1) (List.mem_range.mpr (by omega))
  rw [show p - 1 + 1 = p by omega] at h
  have h := of_decide_eq_true h
  exact ⟨⟨_, h.2.1, h.1⟩, h.2.2⟩
theorem wrp_ok {c : Nat} (hc : c ≤ 1000) : nI c - nI c / nI 16 * nI 16 = nI (c % 16) := pk_rem (by omega) (by decide) (by decide)
theorem goS_same {ρ : Nat → Int32} {w t : Nat} (h : WF ρ) (hw : w < nW ρ) (ht : t < nT ρ) (b : Prop) [Decidable b] : Same ρ (goS ρ w t b) := by
  have := h.wl
  have := h.tl
  obtain ⟨c, hc, ec⟩ := h.wc hw
  obtain ⟨to, hto, et⟩ := h.tc ht
  obtain ⟨p, h1, hp, ep⟩ := h.wp hw
  unfold goS
  by_cases hb : b
  · rw [if_pos hb, ec, et, ep]
    obtain ⟨⟨j, hj, ej⟩, -⟩ := stp_ok hc hto h1 hp
    rw [ej]
    exact Same.up (WF_wc h (by omega) hj) (by omega)
  · rw [if_neg hb, ec, nI_add, wrp_ok (by omega)]
    have h1 := Same.up (WF_wc (w := w) (j := (c + 1) % 16) h (by omega) (by omega)) (by omega)
    exact h1.tr (Same.up (WF_free h1.1 (by omega)) (by omega))
theorem walkS_same {ρ : Nat → Int32} {w t : Nat} (h : WF ρ) (hw : w < nW ρ) (ht : t < nT ρ) (b : Prop) [Decidable b] : Same ρ (walkS ρ w t b) := by
  have h1 := goS_same h hw ht b
  unfold walkS
  by_cases c : goS ρ w t b (44 + 6 * w) = ρ (20 + 3 * t + 1)
  · rw [if_pos c]
    exact h1.tr (arrS_same h1.1 (by rw [h1.2.2.1]; exact hw) (by rw [h1.2.1]; exact ht))
  · rw [if_neg c]
    exact h1
theorem wlkS_same {ρ : Nat → Int32} {w : Nat} (h : WF ρ) (hw : w < nW ρ) : Same ρ (wlkS w ρ) := by
  unfold wlkS
  by_cases c : isT ρ (ρ (44 + 6 * w + 1))
  · rw [if_pos c]
    obtain ⟨t, ht, e⟩ := isT_n h c
    have := h.tl
    rw [e, nI_clamp (by omega)]
    exact walkS_same h hw ht _
  · rw [if_neg c]
    exact Same.rf h
theorem fo_same {f : Nat → (Nat → Int32) → (Nat → Int32)} {N : Nat} (hf : ∀ i ν, i < N → WF ν → Same ν (f i ν)) {ρ : Nat → Int32} (h : WF ρ) : ∀ n, n ≤ N → Same ρ (fo f n ρ)
  | 0, _ => Same.rf h
  | n + 1, hn => by
    have ih := fo_same hf h n (by omega)
    exact ih.tr (hf n _ (by omega) ih.1)
theorem fo_sameW {f : Nat → (Nat → Int32) → (Nat → Int32)} (hf : ∀ i ν, WF ν → i < nW ν → Same ν (f i ν)) {ρ : Nat → Int32} (h : WF ρ) : ∀ n, n ≤ nW ρ → Same ρ (fo f n ρ)
  | 0, _ => Same.rf h
  | n + 1, hn => by
    have ih := fo_sameW hf h n (by omega)
    exact ih.tr (hf n _ ih.1 (by rw [ih.2.2.1]; omega))
theorem fo_sameT {f : Nat → (Nat → Int32) → (Nat → Int32)} (hf : ∀ i ν, WF ν → i < nT ν → Same ν (f i ν)) {ρ : Nat → Int32} (h : WF ρ) : ∀ n, n ≤ nT ρ → Same ρ (fo f n ρ)
  | 0, _ => Same.rf h
  | n + 1, hn => by
    have ih := fo_sameT hf h n (by omega)
    exact ih.tr (hf n _ ih.1 (by rw [ih.2.1]; omega))
theorem mvs_ok (k d : Int32) : ∃ q, q ≤ 4 ∧ mvs k d = nI q := by
  have hb : b2i (d - d / nI 3 * nI 3 = 0) = nI 0 ∨ b2i (d - d / nI 3 * nI 3 = 0) = nI 1 := by
    by_cases z : d - d / nI 3 * nI 3 = 0
    · exact Or.inr (b2i_t z)
    · exact Or.inl (b2i_f z)
  unfold mvs
  by_cases h2 : k = nI 2
  · rw [if_pos h2]
    rcases hb with z | z
    · exact ⟨0, by omega, z⟩
    · exact ⟨1, by omega, z⟩
  · rw [if_neg h2]
    by_cases h3 : k = nI 3
    · rw [if_pos h3]
      rcases hb with z | z
      · exact ⟨1, by omega, by rw [z, nI_add]⟩
      · exact ⟨2, by omega, by rw [z, nI_add]⟩
    · rw [if_neg h3]
      by_cases h4 : k = nI 4
      · rw [if_pos h4]
        rcases hb with z | z
        · exact ⟨2, by omega, by rw [z, nI_add, pk_mul]⟩
        · exact ⟨4, by omega, by rw [z, nI_add, pk_mul]⟩
      · rw [if_neg h4]
        exact ⟨0, by omega, rfl⟩
theorem movS_same {ρ : Nat → Int32} {t : Nat} (h : WF ρ) (ht : t < nT ρ) : Same ρ (movS t ρ) := by
  have := h.tl
  obtain ⟨c, hc, ec⟩ := h.tc ht
  obtain ⟨q, hq, eq⟩ := mvs_ok (ρ (20 + 3 * t)) (ρ 0)
  unfold movS
  rw [ec, eq, nI_add, wrp_ok (by omega)]
  exact Same.up (WF_tc h (by omega) (by omega)) (by omega)
theorem day1_same {ρ : Nat → Int32} (h : WF ρ) : Same ρ (day1 ρ) := listS_same h
theorem day2_same {ρ : Nat → Int32} (h : WF ρ) : Same ρ (day2 ρ) := by
  have h1 := day1_same h
  exact h1.tr (fo_sameW (fun i ν hν hi => wlkS_same hν hi) h1.1 (nW ρ) (by rw [h1.2.2.1]; exact Nat.le_refl _))
theorem day3_same {ρ : Nat → Int32} (h : WF ρ) : Same ρ (day3 ρ) := by
  have h1 := day2_same h
  exact h1.tr (fo_sameT (fun i ν hν hi => movS_same hν hi) h1.1 (nT ρ) (by rw [h1.2.1]; exact Nat.le_refl _))
theorem imn_d {d : Nat} (h : d ≤ 99999) : imn (nI d + nI 1) (nI 99999) = nI (if d < 99999 then d + 1 else 99999) := by
  unfold imn
  rw [nI_add]
  by_cases z : d < 99999
  · rw [if_neg (fun q => by have := (nI_ltI (by omega) (by omega)).mp q; omega), if_pos z]
  · rw [if_neg z, show d = 99999 by omega, if_pos ((nI_ltI (by omega) (by omega)).mpr (by omega))]
theorem endS_ok {ρ : Nat → Int32} (h : WF ρ) : WF (endS ρ) ∧ nT (endS ρ) = nT ρ ∧ nW (endS ρ) = nW ρ := by
  refine ⟨?_, nT_up (by omega), nW_up (by omega)⟩
  unfold endS
  rw [h.d, imn_d h.dl]
  exact WF_dy h (by have := h.dl; by_cases z : nD ρ < 99999 <;> simp [z]; omega)
theorem dayS_ok {ρ : Nat → Int32} (h : WF ρ) : WF (dayS ρ) ∧ nT (dayS ρ) = nT ρ ∧ nW (dayS ρ) = nW ρ := by
  have h1 := day3_same h
  have h2 := endS_ok h1.1
  exact ⟨h2.1, h2.2.1.trans h1.2.1, h2.2.2.trans h1.2.2.1⟩
theorem days_ok {ρ : Nat → Int32} (h : WF ρ) : ∀ n, WF (fo (fun _ => dayS) n ρ) ∧ nT (fo (fun _ => dayS) n ρ) = nT ρ ∧ nW (fo (fun _ => dayS) n ρ) = nW ρ
  | 0 => ⟨h, rfl, rfl⟩
  | n + 1 => by
    have ih := days_ok h n
    have h2 := dayS_ok ih.1
    exact ⟨h2.1, h2.2.1.trans ih.2.1, h2.2.2.trans ih.2.2⟩
