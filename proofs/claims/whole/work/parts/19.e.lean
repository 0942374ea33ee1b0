theorem kwd_w {σ : Nat → Int32} {len n k : Nat} (h : kwd σ len n = some k) : wrd σ len n k := by
  unfold kwd at h
  repeat' split at h
  all_goals first | (cases h; assumption) | cases h
theorem kwd_no {σ : Nat → Int32} {len n j : Nat} (h : kwd σ len n = none) (hj : j < 7) : ¬ wrd σ len n j := by
  unfold kwd at h
  intro z
  by_cases c0 : wrd σ len n 0
  · rw [if_pos c0] at h; cases h
  rw [if_neg c0] at h
  by_cases c1 : wrd σ len n 1
  · rw [if_pos c1] at h; cases h
  rw [if_neg c1] at h
  by_cases c2 : wrd σ len n 2
  · rw [if_pos c2] at h; cases h
  rw [if_neg c2] at h
  by_cases c3 : wrd σ len n 3
  · rw [if_pos c3] at h; cases h
  rw [if_neg c3] at h
  by_cases c4 : wrd σ len n 4
  · rw [if_pos c4] at h; cases h
  rw [if_neg c4] at h
  by_cases c5 : wrd σ len n 5
  · rw [if_pos c5] at h; cases h
  rw [if_neg c5] at h
  by_cases c6 : wrd σ len n 6
  · rw [if_pos c6] at h; cases h
  have : j = 0 ∨ j = 1 ∨ j = 2 ∨ j = 3 ∨ j = 4 ∨ j = 5 ∨ j = 6 := by omega
  rcases this with rfl | rfl | rfl | rfl | rfl | rfl | rfl <;> contradiction
