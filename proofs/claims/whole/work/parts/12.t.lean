theorem tK_le {σ : Nat → Int32} {len n : Nat} : tK σ len n ≤ 4 := by
  unfold tK
  split
  · omega
  · split
    · omega
    · split
      · omega
      · split <;> omega
theorem strL_all : ∀ i, i < 11 → (strL.getD i 0 ≤ 8 ∧ 3 ≤ strL.getD i 0 ∧ nI (strL.getD i 0) >>> (nI 0 &&& 31) = nI (strL.getD i 0)) := by decide +kernel
theorem strC_all : ∀ i, i < 11 → ∀ j, j < strL.getD i 0 → (((((strB.getD i []).getD j 0) &&& nI 255).toUInt32 % 65536).toInt32 = (strB.getD i []).getD j 0 ∧ narrow .char (.int ((strB.getD i []).getD j 0)) = .int ((strB.getD i []).getD j 0)) := by decide +kernel
theorem addT_at {ρ : Nat → Int32} {kd cl : Int32} {p : Nat} : addT ρ kd cl p = if p = 1 then nI (nT ρ + 1) else if p = 20 + 3 * nT ρ + 2 then nI 0 else if p = 20 + 3 * nT ρ + 1 then cl else if p = 20 + 3 * nT ρ then kd else ρ p := rfl
theorem addW_at {ρ : Nat → Int32} {cl am : Int32} {p : Nat} : addW ρ cl am p = if p = 3 then nI (nW ρ + 1) else if p = 44 + 6 * nW ρ + 5 then nI 0 else if p = 44 + 6 * nW ρ + 4 then nI 0 else if p = 44 + 6 * nW ρ + 3 then nI 0 else if p = 44 + 6 * nW ρ + 2 then nI 2 else if p = 44 + 6 * nW ρ + 1 then am else if p = 44 + 6 * nW ρ then cl else ρ p := rfl
theorem addT_n {ρ : Nat → Int32} {kd cl : Int32} (h : WF ρ) (hf : nT ρ < 8) : nT (addT ρ kd cl) = nT ρ + 1 ∧ nW (addT ρ kd cl) = nW ρ ∧ nD (addT ρ kd cl) = nD ρ := by
  refine ⟨?_, ?_, ?_⟩
  · unfold nT; rw [addT_at, if_pos rfl]; exact nI_clamp (by show nT ρ + 1 < _; omega)
  · unfold nW; rw [addT_at, if_neg (by omega), if_neg (by omega), if_neg (by omega), if_neg (by omega)]
  · unfold nD; rw [addT_at, if_neg (by omega), if_neg (by omega), if_neg (by omega), if_neg (by omega)]
theorem addT_lo {ρ : Nat → Int32} {kd cl : Int32} {p : Nat} (h : p < 20 + 3 * nT ρ ∨ 20 + 3 * nT ρ + 3 ≤ p) (h1 : ¬ p = 1) : addT ρ kd cl p = ρ p := by
  rw [addT_at, if_neg h1, if_neg (by omega), if_neg (by omega), if_neg (by omega)]
theorem addW_lo {ρ : Nat → Int32} {kd cl : Int32} {p : Nat} (h : p < 44 + 6 * nW ρ ∨ 44 + 6 * nW ρ + 6 ≤ p) (h1 : ¬ p = 3) : addW ρ kd cl p = ρ p := by
  rw [addW_at, if_neg h1, if_neg (by omega), if_neg (by omega), if_neg (by omega), if_neg (by omega), if_neg (by omega), if_neg (by omega)]
theorem WF_addT {ρ : Nat → Int32} {k c : Nat} (h : WF ρ) (hf : nT ρ < 8) (hk : k ≤ 6) (hc : c ≤ 15) : WF (addT ρ (nI k) (nI c)) := by
  obtain ⟨e1, e3, e0⟩ := addT_n (kd := nI k) (cl := nI c) h hf
  have htl := h.tl
  have hwl := h.wl
  refine ⟨⟨?_, by rw [e0]; exact h.dl⟩, ⟨?_, by rw [e1]; omega⟩, ⟨?_, by rw [e3]; exact hwl⟩, fun t ht => ?_, fun w hw => ?_, fun i hi => ?_⟩
  · rw [e0, addT_lo (by omega) (by omega)]; exact h.d
  · rw [e1, addT_at, if_pos rfl]
  · rw [e3, addT_lo (by omega) (by omega)]; exact h.w
  · rw [e1] at ht
    by_cases q : t < nT ρ
    · rw [addT_lo (by omega) (by omega), addT_lo (by omega) (by omega)]
      exact ⟨h.tk q, h.tc q⟩
    · have q : t = nT ρ := by omega
      subst q
      refine ⟨⟨k, hk, ?_⟩, ⟨c, hc, ?_⟩⟩
      · rw [addT_at, if_neg (by omega), if_neg (by omega), if_neg (by omega), if_pos rfl]
      · rw [addT_at, if_neg (by omega), if_neg (by omega), if_pos rfl]
  · rw [e3] at hw
    rw [addT_lo (by omega) (by omega), addT_lo (by omega) (by omega)]
    exact ⟨h.wc hw, h.wp hw⟩
  · rw [addT_lo (by omega) (by omega), e1]
    rcases h.sp hi with z | ⟨j, hj, z⟩
    · exact Or.inl z
    · exact Or.inr ⟨j, by omega, z⟩
theorem addW_n {ρ : Nat → Int32} {cl am : Int32} (h : WF ρ) (hf : nW ρ < 6) : nW (addW ρ cl am) = nW ρ + 1 ∧ nT (addW ρ cl am) = nT ρ ∧ nD (addW ρ cl am) = nD ρ := by
  refine ⟨?_, ?_, ?_⟩
  · unfold nW; rw [addW_at, if_pos rfl]; exact nI_clamp (by show nW ρ + 1 < _; omega)
  · show (addW ρ cl am 1).toNatClampNeg = _; rw [addW_lo (by omega) (by omega)]; rfl
  · show (addW ρ cl am 0).toNatClampNeg = _; rw [addW_lo (by omega) (by omega)]; rfl
theorem WF_addW {ρ : Nat → Int32} {c : Nat} {am : Int32} (h : WF ρ) (hf : nW ρ < 6) (hc : c ≤ 15) : WF (addW ρ (nI c) am) := by
  obtain ⟨e3, e1, e0⟩ := addW_n (cl := nI c) (am := am) h hf
  have htl := h.tl
  have hwl := h.wl
  refine ⟨⟨?_, by rw [e0]; exact h.dl⟩, ⟨?_, by rw [e1]; omega⟩, ⟨?_, by rw [e3]; omega⟩, fun t ht => ?_, fun w hw => ?_, fun i hi => ?_⟩
  · rw [e0, addW_lo (by omega) (by omega)]; exact h.d
  · rw [e1, addW_lo (by omega) (by omega)]; exact h.t
  · rw [e3, addW_at, if_pos rfl]
  · rw [e1] at ht
    rw [addW_lo (by omega) (by omega), addW_lo (by omega) (by omega)]
    exact ⟨h.tk ht, h.tc ht⟩
  · rw [e3] at hw
    by_cases q : w < nW ρ
    · rw [addW_lo (by omega) (by omega), addW_lo (by omega) (by omega)]
      exact ⟨h.wc q, h.wp q⟩
    · have q : w = nW ρ := by omega
      subst q
      refine ⟨⟨c, hc, ?_⟩, ⟨2, by omega, by omega, ?_⟩⟩
      · rw [addW_at, if_neg (by omega), if_neg (by omega), if_neg (by omega), if_neg (by omega), if_neg (by omega), if_neg (by omega), if_pos rfl]
      · rw [addW_at, if_neg (by omega), if_neg (by omega), if_neg (by omega), if_neg (by omega), if_pos rfl]
  · rw [addW_lo (by omega) (by omega), e1]
    exact h.sp hi
def rdG (S : QM) (σ : Nat → Int32) (len : Nat) (R : Bool × (Nat × (Nat → Int32))) : QM → Prop := fun u => ∃ τ, tkOK σ len R.2.1 τ ∧ u = qr (qr S 4 τ) 2 R.2.2
section RW
variable {σ : Nat → Int32} {len : Nat}
theorem rPer_le {i p lo hi n : Nat} {ρ : Nat → Int32} (h : n ≤ len) : n ≤ (rPer σ len i p lo hi n ρ).2.1 ∧ (rPer σ len i p lo hi n ρ).2.1 ≤ len := by
  have h1 := tN_n (σ := σ) h
  have h2 := tN_n (σ := σ) h1.2
  unfold rPer
  split
  · exact ⟨Nat.le_refl _, h⟩
  · split
    · exact h1
    · exact ⟨Nat.le_trans h1.1 h2.1, h2.2⟩
theorem rThi_le {k n : Nat} {ρ : Nat → Int32} (h : n ≤ len) : n ≤ (rThi σ len k n ρ).2.1 ∧ (rThi σ len k n ρ).2.1 ≤ len ∧ ((rThi σ len k n ρ).1 = true → tN σ len n ≤ (rThi σ len k n ρ).2.1) := by
  have h1 := tN_n (σ := σ) h
  have h2 := tN_n (σ := σ) h1.2
  unfold rThi
  split
  · exact ⟨Nat.le_refl _, h, fun z => absurd z Bool.false_ne_true⟩
  · split
    · exact ⟨h1.1, h1.2, fun _ => Nat.le_refl _⟩
    · exact ⟨Nat.le_trans h1.1 h2.1, h2.2, fun _ => h2.1⟩
theorem rTur_le {n : Nat} {ρ : Nat → Int32} (h : n ≤ len) : n ≤ (rTur σ len n ρ).2.1 ∧ (rTur σ len n ρ).2.1 ≤ len ∧ ((rTur σ len n ρ).1 = true → tN σ len n ≤ (rTur σ len n ρ).2.1) := by
  have h1 := tN_n (σ := σ) h
  have h2 := tN_n (σ := σ) h1.2
  have h3 := tN_n (σ := σ) h2.2
  have h4 := tN_n (σ := σ) h3.2
  unfold rTur
  split
  · exact ⟨h1.1, h1.2, fun _ => Nat.le_refl _⟩
  · split
    · exact ⟨by show n ≤ tN σ len (tN σ len n); omega, h2.2, fun _ => h2.1⟩
    · split
      · exact ⟨by show n ≤ tN σ len (tN σ len (tN σ len n)); omega, h3.2, fun _ => by show tN σ len n ≤ tN σ len (tN σ len (tN σ len n)); omega⟩
      · exact ⟨by show n ≤ tN σ len (tN σ len (tN σ len (tN σ len n))); omega, h4.2, fun _ => by show tN σ len n ≤ tN σ len (tN σ len (tN σ len (tN σ len n))); omega⟩
theorem rWal_le {n : Nat} {ρ : Nat → Int32} (h : n ≤ len) : n ≤ (rWal σ len n ρ).2.1 ∧ (rWal σ len n ρ).2.1 ≤ len ∧ ((rWal σ len n ρ).1 = true → tN σ len n ≤ (rWal σ len n ρ).2.1) := by
  have h1 := tN_n (σ := σ) h
  have h2 := tN_n (σ := σ) h1.2
  have h3 := tN_n (σ := σ) h2.2
  unfold rWal
  split
  · exact ⟨Nat.le_refl _, h, fun z => absurd z Bool.false_ne_true⟩
  · split
    · exact ⟨h1.1, h1.2, fun _ => Nat.le_refl _⟩
    · split
      · exact ⟨by show n ≤ tN σ len (tN σ len n); omega, h2.2, fun _ => h2.1⟩
      · have h4 := rPer_le (σ := σ) (i := 8) (p := 44 + 6 * nW ρ + 2) (lo := 1) (hi := 5) (ρ := addW ρ (tV σ len (tN σ len n)) (tV σ len (tN σ len (tN σ len n)))) h3.2
        split
        · have h5 := rPer_le (σ := σ) (i := 9) (p := 44 + 6 * nW ρ + 3) (lo := 0) (hi := 255) (ρ := (rPer σ len 8 (44 + 6 * nW ρ + 2) 1 5 (tN σ len (tN σ len (tN σ len n))) (addW ρ (tV σ len (tN σ len n)) (tV σ len (tN σ len (tN σ len n))))).2.2) h4.2
          exact ⟨by omega, h5.2, fun _ => by omega⟩
        · exact ⟨by omega, h4.2, fun _ => by omega⟩
theorem rItm_le {n : Nat} {ρ : Nat → Int32} (h : n ≤ len) : n ≤ (rItm σ len n ρ).2.1 ∧ (rItm σ len n ρ).2.1 ≤ len ∧ ((rItm σ len n ρ).1 = true → n < (rItm σ len n ρ).2.1) := by
  have up : ∀ i, wrd σ len n i → n < tN σ len n := fun i hw => by
    have a := tN_up (σ := σ) h (by rw [hw.1]; decide)
    have b := tS_le (σ := σ) h
    omega
  unfold rItm
  by_cases c : wrd σ len n 7
  · rw [if_pos c]
    have := rWal_le (σ := σ) (ρ := ρ) h
    have := up _ c
    exact ⟨by omega, by omega, fun z => by have := (rWal_le (σ := σ) (ρ := ρ) h).2.2 z; omega⟩
  · rw [if_neg c]
    by_cases c2 : wrd σ len n 10
    · rw [if_pos c2]
      have := rTur_le (σ := σ) (ρ := ρ) h
      have := up _ c2
      exact ⟨by omega, by omega, fun z => by have := (rTur_le (σ := σ) (ρ := ρ) h).2.2 z; omega⟩
    · rw [if_neg c2]
      cases hk : kwd σ len n with
      | none => exact ⟨Nat.le_refl _, h, fun z => absurd z Bool.false_ne_true⟩
      | some k =>
        have u : n < tN σ len n := by
          unfold kwd at hk
          by_cases d0 : wrd σ len n 0
          · exact up _ d0
          rw [if_neg d0] at hk
          by_cases d1 : wrd σ len n 1
          · exact up _ d1
          rw [if_neg d1] at hk
          by_cases d2 : wrd σ len n 2
          · exact up _ d2
          rw [if_neg d2] at hk
          by_cases d3 : wrd σ len n 3
          · exact up _ d3
          rw [if_neg d3] at hk
          by_cases d4 : wrd σ len n 4
          · exact up _ d4
          rw [if_neg d4] at hk
          by_cases d5 : wrd σ len n 5
          · exact up _ d5
          rw [if_neg d5] at hk
          by_cases d6 : wrd σ len n 6
          · exact up _ d6
          rw [if_neg d6] at hk
          cases hk
        have := rThi_le (σ := σ) (k := k) (ρ := ρ) h
        exact ⟨this.1, this.2.1, fun z => Nat.lt_of_lt_of_le u (this.2.2 z)⟩
theorem rThi_wf {k n : Nat} {ρ : Nat → Int32} (h : WF ρ) (hk : k ≤ 6) : WF (rThi σ len k n ρ).2.2 := by
  unfold rThi
  split
  · exact h
  · rename_i c
    split
    · exact h
    · rename_i c2
      have c2 : num σ len (tN σ len n) 0 15 := Decidable.not_not.mp c2
      obtain ⟨j, -, hj, e⟩ := inR_n (by decide) c2.2
      show WF (addT ρ (nI k) (tV σ len (tN σ len n)))
      rw [e]
      exact WF_addT h (by omega) hk hj
theorem rTur_wf {n : Nat} {ρ : Nat → Int32} (h : WF ρ) : WF (rTur σ len n ρ).2.2 := by
  unfold rTur
  split
  · exact h
  · rename_i c1
    split
    · exact h
    · split
      · exact h
      · have c1 : num σ len (tN σ len n) 0 5 := Decidable.not_not.mp c1
        obtain ⟨j, -, hj, e⟩ := inR_n (by decide) c1.2
        show WF (upd ρ (4 + (tV σ len (tN σ len n)).toNatClampNeg) _)
        rw [e, nI_clamp (by omega)]
        exact WF_free h (by omega)
theorem rPer2_wf {n : Nat} {ρ : Nat → Int32} {w : Nat} (h : WF ρ) (hw : w < 6) : WF (rPer σ len 8 (44 + 6 * w + 2) 1 5 n ρ).2.2 ∧ nW (rPer σ len 8 (44 + 6 * w + 2) 1 5 n ρ).2.2 = nW ρ := by
  unfold rPer
  split
  · exact ⟨h, rfl⟩
  · split
    · exact ⟨h, rfl⟩
    · rename_i c
      have c : num σ len (tN σ len n) 1 5 := Decidable.not_not.mp c
      obtain ⟨j, h1, hj, e⟩ := inR_n (by decide) c.2
      show WF (upd ρ (44 + 6 * w + 2) (tV σ len (tN σ len n))) ∧ nW (upd ρ (44 + 6 * w + 2) (tV σ len (tN σ len n))) = _
      rw [e]
      exact ⟨WF_wp h hw h1 hj, nW_up (by omega)⟩
theorem rPer3_wf {n : Nat} {ρ : Nat → Int32} {w : Nat} (h : WF ρ) (hw : w < 6) : WF (rPer σ len 9 (44 + 6 * w + 3) 0 255 n ρ).2.2 := by
  unfold rPer
  split
  · exact h
  · split
    · exact h
    · exact WF_free h (by omega)
theorem rWal_wf {n : Nat} {ρ : Nat → Int32} (h : WF ρ) : WF (rWal σ len n ρ).2.2 := by
  unfold rWal
  split
  · exact h
  · rename_i c0
    split
    · exact h
    · rename_i c1
      have c1 : num σ len (tN σ len n) 0 15 := Decidable.not_not.mp c1
      obtain ⟨j, -, hj, e⟩ := inR_n (by decide) c1.2
      split
      · exact h
      · have g : WF (addW ρ (tV σ len (tN σ len n)) (tV σ len (tN σ len (tN σ len n)))) := by rw [e]; exact WF_addW h (by omega) hj
        have g2 := rPer2_wf (σ := σ) (len := len) (n := tN σ len (tN σ len (tN σ len n))) (w := nW ρ) g (by omega)
        split
        · exact rPer3_wf g2.1 (by omega)
        · exact g2.1
theorem rItm_wf {n : Nat} {ρ : Nat → Int32} (h : WF ρ) : WF (rItm σ len n ρ).2.2 := by
  unfold rItm
  by_cases c : wrd σ len n 7
  · rw [if_pos c]; exact rWal_wf h
  · rw [if_neg c]
    by_cases c2 : wrd σ len n 10
    · rw [if_pos c2]; exact rTur_wf h
    · rw [if_neg c2]
      cases hk : kwd σ len n with
      | none => exact h
      | some k =>
        refine rThi_wf h ?_
        unfold kwd at hk
        repeat' split at hk
        all_goals first | (cases hk; omega) | (cases hk)
theorem rAll_wf : ∀ f k n (ρ : Nat → Int32), WF ρ → WF (rAll σ len f k n ρ).2
  | 0, _, _, _, h => h
  | f + 1, k, n, ρ, h => by
    have g := rItm_wf (σ := σ) (len := len) (n := n) h
    unfold rAll
    split
    · exact g
    · split
      · exact g
      · split
        · exact g
        · exact rAll_wf f _ _ _ g
end RW
def kwI (σ : Nat → Int32) (len n : Nat) : Int32 := match kwd σ len n with
  | some k => nI k
  | none => (-1)
theorem kwI_s {σ : Nat → Int32} {len n k : Nat} (h : kwd σ len n = some k) : kwI σ len n = nI k := by
  unfold kwI
  rw [h]
theorem kwI_n {σ : Nat → Int32} {len n : Nat} (h : kwd σ len n = none) : kwI σ len n = (-1) := by
  unfold kwI
  rw [h]
theorem kwd_le {σ : Nat → Int32} {len n k : Nat} (h : kwd σ len n = some k) : k ≤ 6 := by
  unfold kwd at h
  repeat' split at h
  all_goals first | (cases h; omega) | (cases h)
