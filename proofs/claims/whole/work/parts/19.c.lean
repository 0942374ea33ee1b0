theorem strU : ∀ i, i < 11 → ∀ j, j < 11 → strL.getD i 0 = strL.getD j 0 → (∀ q, q < strL.getD i 0 → (strB.getD i []).getD q 0 = (strB.getD j []).getD q 0) → i = j := by decide +kernel
theorem wrd_u {σ : Nat → Int32} {len n i j : Nat} (hi : i < 11) (hj : j < 11) (h : wrd σ len n i) (g : wrd σ len n j) : i = j := by
  refine strU i hi j hj ?_ ?_
  · rw [← h.2.1, ← g.2.1]
  · intro q hq
    rw [← h.2.2 q hq, ← g.2.2 q (by rw [← g.2.1, h.2.1]; exact hq)]
theorem tk_3 {σ : Nat → Int32} {len n : Nat} (h : tS σ len n < len) (hk : kR (tK σ len n) = 3) : tK σ len n = 3 ↔ σ (tS σ len n) = nI 59 := by
  unfold tK at hk ⊢
  rw [if_neg (fun z => z h)] at hk ⊢
  by_cases c1 : isLt (σ (tS σ len n))
  · rw [if_pos c1] at hk; exact absurd hk (by decide)
  · rw [if_neg c1] at hk ⊢
    by_cases c2 : isDg (σ (tS σ len n))
    · rw [if_pos c2] at hk; exact absurd hk (by decide)
    · rw [if_neg c2]
      by_cases c3 : σ (tS σ len n) = nI 59
      · rw [if_pos c3]; exact ⟨fun _ => c3, fun _ => rfl⟩
      · rw [if_neg c3]; exact ⟨fun z => absurd z (by decide), fun z => absurd z c3⟩
theorem tk_lt {σ : Nat → Int32} {len n : Nat} (h : ¬ kR (tK σ len n) = 0) : tS σ len n < len := by
  refine Classical.byContradiction fun z => h (kR_0.mpr ?_)
  unfold tK
  rw [if_pos z]
theorem neg1 {k : Nat} (hk : k ≤ 1000) : ¬ nI 0 < (-1) - nI k := by
  have h : ∀ k, k < 1001 → ¬ nI 0 < (-1) - nI k := by decide +kernel
  exact h k (by omega)
theorem pos1 {k : Nat} (hk : k ≤ 1000) (h1 : 1 ≤ k) : nI 0 < nI k := (nI_ltI (by omega) (by omega)).mpr h1
/-- behind the k-th item -/
def gRes (σ : Nat → Int32) (len k n : Nat) (μ : Nat → Int32) : Int32 × (Nat → Int32) :=
  if tK σ len n = 0 then (nI k, μ) else if ¬ tK σ len n = 3 then ((-1) - nI (tS σ len n), μ) else rAll σ len (120 - k) k (tN σ len n) μ
theorem rAll_s {σ : Nat → Int32} {len k n : Nat} {μ : Nat → Int32} (hk : k < 120) (h : (rItm σ len n μ).1 = true) : rAll σ len (120 - k) k n μ = gRes σ len (k + 1) (rItm σ len n μ).2.1 (rItm σ len n μ).2.2 := by
  rw [show 120 - k = (120 - (k + 1)) + 1 by omega, rAll, if_neg (by rw [h]; decide), gRes]
theorem rAll_b {σ : Nat → Int32} {len k n : Nat} {μ : Nat → Int32} (hk : k < 120) (h : ¬ (rItm σ len n μ).1 = true) : rAll σ len (120 - k) k n μ = ((-1) - nI (tS σ len (rItm σ len n μ).2.1), (rItm σ len n μ).2.2) := by
  rw [show 120 - k = (120 - (k + 1)) + 1 by omega, rAll, if_pos (Bool.of_not_eq_true h)]
theorem gRes_0 {σ : Nat → Int32} {len k n : Nat} {μ : Nat → Int32} (h : tK σ len n = 0) : gRes σ len k n μ = (nI k, μ) := by
  rw [gRes, if_pos h]
theorem gRes_x {σ : Nat → Int32} {len k n : Nat} {μ : Nat → Int32} (h : ¬ tK σ len n = 0) (h3 : ¬ tK σ len n = 3) : gRes σ len k n μ = ((-1) - nI (tS σ len n), μ) := by
  rw [gRes, if_neg h, if_pos h3]
theorem gRes_3 {σ : Nat → Int32} {len k n : Nat} {μ : Nat → Int32} (h : tK σ len n = 3) : gRes σ len k n μ = rAll σ len (120 - k) k (tN σ len n) μ := by
  rw [gRes, if_neg (by rw [h]; decide), if_neg (fun z => z h)]
