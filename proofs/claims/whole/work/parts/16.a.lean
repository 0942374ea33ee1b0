theorem isT_m {ν : Nat → Int32} {x : Int32} (h : WF ν) : (nI 0 ≤ x ∧ x ≤ ν 1 - nI 1) ↔ isT ν x := by
  have hl := h.tl
  constructor
  · intro c
    rw [h.t] at c
    obtain ⟨i, hi, rfl⟩ := ile_sub_i (by omega) c
    exact (isT_i h (by omega)).mpr hi
  · intro c
    obtain ⟨i, hi, rfl⟩ := isT_n h c
    exact ⟨nI_pos2 (by omega), by rw [h.t]; exact ile_sub hi (by omega)⟩
theorem isW_m {ν : Nat → Int32} {x : Int32} (h : WF ν) : (nI 0 ≤ x ∧ x ≤ ν 3 - nI 1) ↔ isW ν x := by
  have hl := h.wl
  constructor
  · intro c
    rw [h.w] at c
    obtain ⟨i, hi, rfl⟩ := ile_sub_i (by omega) c
    exact (isW_i h (by omega)).mpr hi
  · intro c
    obtain ⟨i, hi, rfl⟩ := isW_n h c
    exact ⟨nI_pos2 (by omega), by rw [h.w]; exact ile_sub hi (by omega)⟩
def fnR (φ : Nat → Int32) (i : Nat) : Nat → Int32 := (fun μ => upd μ 0 (μ 0 + nI 1)) (upd φ (i + 1) (φ (i + 1) + nI 1))
theorem or0 {a : Int32} : a ||| nI 0 = a := by
  refine i32e (fun i hi => ?_)
  rw [or_bit, show (nI 0).toBitVec.getLsbD i = false by simp [nI]]
  simp
theorem imn_comm {x y : Int32} : imn x y = imn y x := by
  unfold imn
  by_cases h : y < x
  · rw [if_pos h, if_neg (fun z => by rw [Int32.lt_iff_toInt_lt] at h z; omega)]
  · by_cases g : x < y
    · rw [if_neg h, if_pos g]
    · rw [if_neg h, if_neg g]
      apply Int32.toInt_inj.mp
      rw [Int32.lt_iff_toInt_lt] at h g
      omega
abbrev GQ (ν : Nat → Int32) (w t k : Nat) : Prop := see ν w t ∨ ∃ o, o < k ∧ (ν (44 + 6 * o) = ν (44 + 6 * w) ∧ see ν o t)
theorem GQ_s {ν : Nat → Int32} {w t k : Nat} : GQ ν w t (k + 1) ↔ GQ ν w t k ∨ (¬ k = w ∧ ν (44 + 6 * k) = ν (44 + 6 * w) ∧ see ν k t) := by
  constructor
  · rintro (h | ⟨o, ho, h1, h2⟩)
    · exact Or.inl (Or.inl h)
    · rcases Nat.lt_succ_iff_lt_or_eq.mp ho with z | z
      · exact Or.inl (Or.inr ⟨o, z, h1, h2⟩)
      · subst z
        by_cases q : o = w
        · exact Or.inl (Or.inl (q ▸ h2))
        · exact Or.inr ⟨q, h1, h2⟩
  · rintro ((h | ⟨o, ho, h1, h2⟩) | ⟨-, h1, h2⟩)
    · exact Or.inl h
    · exact Or.inr ⟨o, by omega, h1, h2⟩
    · exact Or.inr ⟨k, by omega, h1, h2⟩
theorem GQ_e {ν : Nat → Int32} {w t : Nat} (hw : w < nW ν) : GQ ν w t (nW ν) ↔ fnd ν w t := by
  constructor
  · rintro (h | h)
    · exact ⟨w, hw, rfl, h⟩
    · exact h
  · exact fun h => Or.inr h
def crS (ν : Nat → Int32) (w t : Nat) (d : Int32) : Nat → Int32 := upd ν (44 + 6 * w + 3) (puts (ν (44 + 6 * w + 3)) t (¬ d = 0))
def moreS (ν : Nat → Int32) (p : Nat) (b h : Int32) : Nat → Int32 := upd ν p (imn (ν p + b) h)
def isFd (k : Nat) : Nat × Nat := ([(0, 15), (0, 7), (1, 5), (0, 255), (0, 9999), (0, 9999)] : List (Nat × Nat)).getD k (0, 0)
theorem b2i_01 {P : Prop} [Decidable P] : b2i P = nI 0 ∨ b2i P = nI 1 := by
  by_cases h : P
  · exact Or.inr (b2i_t h)
  · exact Or.inl (b2i_f h)
theorem setsOut_e {ν : Nat → Int32} {cl am : Int32} : upd (upd (upd (upd (fo (fun f μ => upd μ (44 + 6 * nW ν + f) (nI 0)) 6 ν) (44 + 6 * nW ν) cl) (44 + 6 * nW ν + 1) am) (44 + 6 * nW ν + 2) (nI 2)) 3 (nI (nW ν + 1)) = addW ν cl am := by
  funext q
  rw [addW_at]
  simp only [fo, upd]
  repeat' split
  all_goals first | rfl | (exfalso; omega)
