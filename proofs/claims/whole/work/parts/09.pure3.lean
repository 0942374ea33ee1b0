theorem i32e {x y : Int32} (h : ∀ i : Nat, i < 32 → x.toBitVec.getLsbD i = y.toBitVec.getLsbD i) : x = y := Int32.toBitVec_inj.mp (BitVec.eq_of_getLsbD_eq (fun i hi => h i hi))
theorem bt_bit {t i : Nat} (ht : t < 8) (hi : i < 32) : (bt t).toBitVec.getLsbD i = decide (i = t) := by
  have h : ((List.range 8).all fun t => (List.range 32).all fun i => (bt t).toBitVec.getLsbD i == decide (i = t)) = true := by decide +kernel
  have h1 := List.all_eq_true.mp (List.all_eq_true.mp h t (List.mem_range.mpr ht)) i (List.mem_range.mpr hi)
  exact eq_of_beq h1
theorem m1_bit {i : Nat} (hi : i < 32) : (-1 : Int32).toBitVec.getLsbD i = true := by
  have h : ((List.range 32).all fun i => (-1 : Int32).toBitVec.getLsbD i) = true := by decide +kernel
  exact List.all_eq_true.mp h i (List.mem_range.mpr hi)
theorem care_bit {c : Int32} {t : Nat} (ht : t < 8) : care c t ↔ c.toBitVec.getLsbD t = true := by
  have e : ((nI t &&& 31).toBitVec.smod 32) = BitVec.ofNat 32 t := by
    rcases (show t = 0 ∨ t = 1 ∨ t = 2 ∨ t = 3 ∨ t = 4 ∨ t = 5 ∨ t = 6 ∨ t = 7 by omega) with rfl | rfl | rfl | rfl | rfl | rfl | rfl | rfl <;> decide +kernel
  have e1 : (c >>> (nI t &&& 31)).toBitVec = c.toBitVec.sshiftRight t := by
    rw [Int32.toBitVec_shiftRight, e]
    show c.toBitVec.sshiftRight (BitVec.ofNat 32 t).toNat = _
    rw [BitVec.toNat_ofNat, Nat.mod_eq_of_lt (by omega)]
  have e0 : (nI 1).toBitVec = 1#32 := by decide +kernel
  have eb : ∀ i : Nat, i < 32 → ((c >>> (nI t &&& 31) &&& nI 1)).toBitVec.getLsbD i = (decide (i = 0) && c.toBitVec.getLsbD t) := by
    intro i hi
    rw [Int32.toBitVec_and, BitVec.getLsbD_and, e1, e0]
    by_cases h0 : i = 0
    · subst h0
      rw [BitVec.getLsbD_sshiftRight]
      simp
      omega
    · have : (1#32).getLsbD i = false := by
        simp
        omega
      rw [this]
      simp [h0]
  constructor
  · intro h
    have h1 := eb 0 (by decide)
    rw [show c >>> (nI t &&& 31) &&& nI 1 = nI 1 from h, e0] at h1
    simpa using h1.symm
  · intro h
    show c >>> (nI t &&& 31) &&& nI 1 = nI 1
    refine i32e (fun i hi => ?_)
    rw [eb i hi, h, e0]
    by_cases h0 : i = 0
    · subst h0; rfl
    · simp [h0]
theorem or_bit {a b : Int32} {i : Nat} : (a ||| b).toBitVec.getLsbD i = (a.toBitVec.getLsbD i || b.toBitVec.getLsbD i) := by
  rw [Int32.toBitVec_or, BitVec.getLsbD_or]
theorem and_bit {a b : Int32} {i : Nat} : (a &&& b).toBitVec.getLsbD i = (a.toBitVec.getLsbD i && b.toBitVec.getLsbD i) := by
  rw [Int32.toBitVec_and, BitVec.getLsbD_and]
theorem xor_bit {a b : Int32} {i : Nat} : (a ^^^ b).toBitVec.getLsbD i = (a.toBitVec.getLsbD i ^^ b.toBitVec.getLsbD i) := by
  rw [Int32.toBitVec_xor, BitVec.getLsbD_xor]
theorem puts_bit {c : Int32} {t i : Nat} {b : Prop} [Decidable b] (ht : t < 8) (hi : i < 32) : (puts c t b).toBitVec.getLsbD i = if i = t then decide b else c.toBitVec.getLsbD i := by
  unfold puts
  by_cases hb : b
  · rw [if_pos hb, or_bit, bt_bit ht hi]
    by_cases h : i = t <;> simp [h, hb]
  · rw [if_neg hb, and_bit, xor_bit, bt_bit ht hi, m1_bit hi]
    by_cases h : i = t <;> simp [h, hb]
theorem tog_eq {c : Int32} {t : Nat} (ht : t < 8) : c ^^^ bt t = puts c t (¬ care c t) := by
  refine i32e (fun i hi => ?_)
  rw [xor_bit, bt_bit ht hi, puts_bit ht hi]
  by_cases h : i = t
  · subst h
    rw [if_pos rfl]
    by_cases hc : c.toBitVec.getLsbD i = true
    · have : care c i := (care_bit ht).mpr hc
      simp [hc, this]
    · have : ¬ care c i := fun z => hc ((care_bit ht).mp z)
      simp [hc, this]
  · rw [if_neg h]
    simp [h]
/-- the reference's two steps -/
theorem two_eq {c : Int32} {t : Nat} {b : Prop} [Decidable b] : (c &&& (bt t ^^^ (-1))) ||| (if b then bt t else nI 0) = puts c t b := by
  unfold puts
  by_cases hb : b
  · rw [if_pos hb, if_pos hb]
    refine i32e (fun i hi => ?_)
    rw [or_bit, or_bit, and_bit, xor_bit, m1_bit hi]
    cases c.toBitVec.getLsbD i <;> cases (bt t).toBitVec.getLsbD i <;> rfl
  · rw [if_neg hb, if_neg hb]
    refine i32e (fun i hi => ?_)
    rw [or_bit, show (nI 0).toBitVec.getLsbD i = false by simp [nI]]
    simp
theorem puts_c {c : Int32} {t : Nat} {b d : Prop} [Decidable b] [Decidable d] (h : b ↔ d) : puts c t b = puts c t d := by
  unfold puts
  by_cases hb : b
  · rw [if_pos hb, if_pos (h.mp hb)]
  · rw [if_neg hb, if_neg (fun z => hb (h.mpr z))]
theorem stp_row {ρ : Nat → Int32} {w t : Nat} (h : WF ρ) (hw : w < nW ρ) (ht : t < nT ρ) : ρ (44 + 6 * w) + imx (-ρ (44 + 6 * w + 2)) (imn (ρ (44 + 6 * w + 2)) (ρ (20 + 3 * t + 1) - ρ (44 + 6 * w))) = stp (ρ (44 + 6 * w)) (ρ (20 + 3 * t + 1)) (ρ (44 + 6 * w + 2)) := by
  obtain ⟨c, hc, ec⟩ := h.wc hw
  obtain ⟨to, hto, et⟩ := h.tc ht
  obtain ⟨p, h1, hp, ep⟩ := h.wp hw
  rw [ec, et, ep]
  exact (stp_ok hc hto h1 hp).2
