theorem Jk_p {S v : QM} (h : Jk S) (e1 : v 1 = S 1) (e3 : v 3 3 = S 3 3) (e15 : v 15 3 = S 15 3) (e17 : v 17 = S 17) : Jk v := by
  unfold Jk
  rw [e1, e3, e15, e17]
  exact h
/-! reading from equal commons -/
def Re (A B : Bool × (Nat × (Nat → Int32))) : Prop := A.1 = B.1 ∧ A.2.1 = B.2.1 ∧ eqv A.2.2 B.2.2
section RE
variable {σ : Nat → Int32} {len : Nat} {ρ ν : Nat → Int32}
theorem rPer_e (h : eqv ρ ν) {i p lo hi n : Nat} (h1 : ¬ p = 1) (h3 : ¬ p = 3) : Re (rPer σ len i p lo hi n ρ) (rPer σ len i p lo hi n ν) := by
  unfold rPer
  by_cases c : wrd σ len n i
  · have nc := not_not_intro c
    rw [if_neg nc, if_neg nc]
    by_cases d : num σ len (tN σ len n) lo hi
    · have nd := not_not_intro d
      rw [if_neg nd, if_neg nd]
      exact ⟨rfl, rfl, h.up _ h1 h3⟩
    · rw [if_pos d, if_pos d]
      exact ⟨rfl, rfl, h⟩
  · rw [if_pos c, if_pos c]
    exact ⟨rfl, rfl, h⟩
theorem rThi_e (h : eqv ρ ν) (hwf : WF ρ) {k n : Nat} : Re (rThi σ len k n ρ) (rThi σ len k n ν) := by
  unfold rThi
  rw [← h.nT]
  by_cases c : nT ρ < 8
  · have nc := not_not_intro c
    rw [if_neg nc, if_neg nc]
    by_cases d : num σ len (tN σ len n) 0 15
    · have nd := not_not_intro d
      rw [if_neg nd, if_neg nd]
      exact ⟨rfl, rfl, addT_e h hwf c _ _⟩
    · rw [if_pos d, if_pos d]
      exact ⟨rfl, rfl, h⟩
  · rw [if_pos c, if_pos c]
    exact ⟨rfl, rfl, h⟩
theorem rTur_e (h : eqv ρ ν) {n : Nat} : Re (rTur σ len n ρ) (rTur σ len n ν) := by
  unfold rTur
  by_cases c1 : num σ len (tN σ len n) 0 5
  · have nc1 := not_not_intro c1
    rw [if_neg nc1, if_neg nc1]
    by_cases c2 : num σ len (tN σ len (tN σ len n)) 0 5
    · have nc2 := not_not_intro c2
      rw [if_neg nc2, if_neg nc2]
      by_cases c3 : num σ len (tN σ len (tN σ len (tN σ len n))) 0 7
      · have nc3 := not_not_intro c3
        rw [if_neg nc3, if_neg nc3]
        exact ⟨rfl, rfl, h.up _ (by omega) (by
          obtain ⟨j, -, hj, ej⟩ := inR_n (by decide) c1.2
          rw [ej, nI_clamp (by omega)]
          omega)⟩
      · rw [if_pos c3, if_pos c3]
        exact ⟨rfl, rfl, h⟩
    · rw [if_pos c2, if_pos c2]
      exact ⟨rfl, rfl, h⟩
  · rw [if_pos c1, if_pos c1]
    exact ⟨rfl, rfl, h⟩
theorem rWal_e (h : eqv ρ ν) (hwf : WF ρ) {n : Nat} : Re (rWal σ len n ρ) (rWal σ len n ν) := by
  unfold rWal
  rw [← h.nW]
  by_cases c : nW ρ < 6
  · have nc := not_not_intro c
    rw [if_neg nc, if_neg nc]
    by_cases c1 : num σ len (tN σ len n) 0 15
    · have nc1 := not_not_intro c1
      rw [if_neg nc1, if_neg nc1]
      by_cases c2 : num σ len (tN σ len (tN σ len n)) 0 7
      · have nc2 := not_not_intro c2
        rw [if_neg nc2, if_neg nc2]
        have ea := addW_e h hwf c (tV σ len (tN σ len n)) (tV σ len (tN σ len (tN σ len n)))
        obtain ⟨e1, e2, e3⟩ := rPer_e (σ := σ) (len := len) ea (i := 8) (p := 44 + 6 * nW ρ + 2) (lo := 1) (hi := 5) (n := tN σ len (tN σ len (tN σ len n))) (by omega) (by omega)
        rw [← e1, ← e2]
        by_cases d : (rPer σ len 8 (44 + 6 * nW ρ + 2) 1 5 (tN σ len (tN σ len (tN σ len n))) (addW ρ (tV σ len (tN σ len n)) (tV σ len (tN σ len (tN σ len n))))).1 = true
        · rw [if_pos d, if_pos d]
          exact rPer_e e3 (by omega) (by omega)
        · rw [if_neg d, if_neg d]
          exact ⟨e1, e2, e3⟩
      · rw [if_pos c2, if_pos c2]
        exact ⟨rfl, rfl, h⟩
    · rw [if_pos c1, if_pos c1]
      exact ⟨rfl, rfl, h⟩
  · rw [if_pos c, if_pos c]
    exact ⟨rfl, rfl, h⟩
theorem rItm_e (h : eqv ρ ν) (hwf : WF ρ) {n : Nat} : Re (rItm σ len n ρ) (rItm σ len n ν) := by
  unfold rItm
  by_cases c1 : wrd σ len n 7
  · rw [if_pos c1, if_pos c1]
    exact rWal_e h hwf
  · rw [if_neg c1, if_neg c1]
    by_cases c2 : wrd σ len n 10
    · rw [if_pos c2, if_pos c2]
      exact rTur_e h
    · rw [if_neg c2, if_neg c2]
      cases kwd σ len n with
      | none => exact ⟨rfl, rfl, h⟩
      | some k => exact rThi_e h hwf
end RE
theorem rAll_e {σ : Nat → Int32} {len : Nat} : ∀ f k n (ρ ν : Nat → Int32), eqv ρ ν → WF ρ → (rAll σ len f k n ρ).1 = (rAll σ len f k n ν).1 ∧ eqv (rAll σ len f k n ρ).2 (rAll σ len f k n ν).2
  | 0, k, n, ρ, ν, h, _ => ⟨rfl, h⟩
  | f + 1, k, n, ρ, ν, h, hwf => by
    obtain ⟨e1, e2, e3⟩ := rItm_e (σ := σ) (len := len) h hwf (n := n)
    have hw2 := rItm_wf (σ := σ) (len := len) (n := n) hwf
    unfold rAll
    rw [← e1, ← e2]
    by_cases c1 : (rItm σ len n ρ).1 = false
    · rw [if_pos c1, if_pos c1]
      exact ⟨rfl, e3⟩
    · rw [if_neg c1, if_neg c1]
      by_cases c2 : tK σ len (rItm σ len n ρ).2.1 = 0
      · rw [if_pos c2, if_pos c2]
        exact ⟨rfl, e3⟩
      · rw [if_neg c2, if_neg c2]
        by_cases c3 : tK σ len (rItm σ len n ρ).2.1 = 3
        · have nc3 := not_not_intro c3
          rw [if_neg nc3, if_neg nc3]
          exact rAll_e f (k + 1) _ _ _ e3 hw2
        · rw [if_pos c3, if_pos c3]
          exact ⟨rfl, e3⟩
theorem m1_n {x : Int32} {n : Nat} (hn : n ≤ 1000) (h : (-1) ≤ x ∧ x ≤ nI n) : x = -1 ∨ ∃ i, i ≤ n ∧ x = nI i := by
  by_cases c : x = -1
  · exact Or.inl c
  · refine Or.inr ?_
    obtain ⟨h1, h2⟩ := h
    have h3 : nI 0 ≤ x := by
      rw [Int32.le_iff_toInt_le] at h1 ⊢
      have e1 : (-1 : Int32).toInt = -1 := by decide
      have e0 : (nI 0).toInt = 0 := by decide
      rw [e0]
      rw [e1] at h1
      have : ¬ x.toInt = -1 := fun z => c (Int32.toInt_inj.mp (by rw [z, e1]))
      omega
    obtain ⟨i, -, hi, e⟩ := inR_n (lo := 0) (hi := n) (by omega) ⟨h3, h2⟩
    exact ⟨i, hi, e⟩
