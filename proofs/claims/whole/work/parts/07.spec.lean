abbrev inR (lo hi : Nat) (x : Int32) : Prop := nI lo ≤ x ∧ x ≤ nI hi
theorem inR_n {lo hi : Nat} {x : Int32} (hh : lo < 2147483648 ∧ hi < 2147483648) (h : inR lo hi x) : ∃ j : Nat, lo ≤ j ∧ j ≤ hi ∧ x = nI j := by
  obtain ⟨h1, h2⟩ := h
  obtain ⟨hl, hh⟩ := hh
  rw [Int32.le_iff_toInt_le, nI_toInt (by omega)] at h1
  rw [Int32.le_iff_toInt_le, nI_toInt (by omega)] at h2
  refine ⟨x.toInt.toNat, by omega, by omega, ?_⟩
  apply Int32.toInt_inj.mp
  rw [nI_toInt (by omega)]
  omega
theorem inR_i {lo hi j : Nat} (hj : j < 2147483648) (hh : lo < 2147483648 ∧ hi < 2147483648) : inR lo hi (nI j) ↔ lo ≤ j ∧ j ≤ hi := by
  show nI lo ≤ nI j ∧ nI j ≤ nI hi ↔ _
  rw [nI_leI (by omega) (by omega), nI_leI (by omega) (by omega)]
def nT (r : Nat → Int32) : Nat := (r 1).toNatClampNeg
def nW (r : Nat → Int32) : Nat := (r 3).toNatClampNeg
def nD (r : Nat → Int32) : Nat := (r 0).toNatClampNeg
/-- what a row of a common always holds -/
def WF (r : Nat → Int32) : Prop := (r 0 = nI (nD r) ∧ nD r ≤ 99999) ∧ (r 1 = nI (nT r) ∧ nT r ≤ 8) ∧ (r 3 = nI (nW r) ∧ nW r ≤ 6) ∧
  (∀ t, t < nT r → (∃ j, j ≤ 6 ∧ r (20 + 3 * t) = nI j) ∧ ∃ j, j ≤ 15 ∧ r (20 + 3 * t + 1) = nI j) ∧
  (∀ w, w < nW r → (∃ j, j ≤ 15 ∧ r (44 + 6 * w) = nI j) ∧ ∃ j, 1 ≤ j ∧ j ≤ 5 ∧ r (44 + 6 * w + 2) = nI j) ∧
  (∀ i, i < 10 → r (10 + i) = -1 ∨ ∃ j, j < nT r ∧ r (10 + i) = nI j)
theorem WF.d {r : Nat → Int32} (h : WF r) : r 0 = nI (nD r) := h.1.1
theorem WF.dl {r : Nat → Int32} (h : WF r) : nD r ≤ 99999 := h.1.2
theorem WF.t {r : Nat → Int32} (h : WF r) : r 1 = nI (nT r) := h.2.1.1
theorem WF.tl {r : Nat → Int32} (h : WF r) : nT r ≤ 8 := h.2.1.2
theorem WF.w {r : Nat → Int32} (h : WF r) : r 3 = nI (nW r) := h.2.2.1.1
theorem WF.wl {r : Nat → Int32} (h : WF r) : nW r ≤ 6 := h.2.2.1.2
abbrev isT (r : Nat → Int32) (x : Int32) : Prop := nI 0 ≤ x ∧ x < r 1
abbrev isW (r : Nat → Int32) (x : Int32) : Prop := nI 0 ≤ x ∧ x < r 3
theorem lt_nI_n {x : Int32} {n : Nat} (hn : n < 2147483648) (h : nI 0 ≤ x ∧ x < nI n) : ∃ t : Nat, t < n ∧ x = nI t := by
  obtain ⟨h1, h2⟩ := h
  rw [Int32.le_iff_toInt_le, nI_toInt (by omega)] at h1
  rw [Int32.lt_iff_toInt_lt, nI_toInt (by omega)] at h2
  refine ⟨x.toInt.toNat, by omega, ?_⟩
  apply Int32.toInt_inj.mp
  rw [nI_toInt (by omega)]
  omega
theorem isT_n {r : Nat → Int32} {x : Int32} (h : WF r) (c : isT r x) : ∃ t : Nat, t < nT r ∧ x = nI t := by
  have := h.tl
  exact lt_nI_n (by omega) (by rw [← h.t]; exact c)
theorem isW_n {r : Nat → Int32} {x : Int32} (h : WF r) (c : isW r x) : ∃ t : Nat, t < nW r ∧ x = nI t := by
  have := h.wl
  exact lt_nI_n (by omega) (by rw [← h.w]; exact c)
theorem isT_i {r : Nat → Int32} {t : Nat} (h : WF r) (ht : t < 2147483648) : isT r (nI t) ↔ t < nT r := by
  have := h.tl
  show nI 0 ≤ nI t ∧ nI t < r 1 ↔ _
  rw [h.t, nI_leI (by omega) (by omega), nI_ltI (by omega) (by omega)]
  omega
theorem isW_i {r : Nat → Int32} {t : Nat} (h : WF r) (ht : t < 2147483648) : isW r (nI t) ↔ t < nW r := by
  have := h.wl
  show nI 0 ≤ nI t ∧ nI t < r 3 ↔ _
  rw [h.w, nI_leI (by omega) (by omega), nI_ltI (by omega) (by omega)]
  omega
def clr (k : Int32) : Int32 := if k = nI 1 then nI 15 else if k = nI 2 then nI 6 else if k = nI 3 then nI 3 else if k = nI 4 then nI 2 else if k = nI 5 then nI 0 else if k = nI 6 then nI 7 else nI 4
def dmm (k met day : Int32) : Int32 := if k = nI 1 then nI 1 else if k = nI 2 then nI 1 else if k = nI 3 then nI 0 else if k = nI 4 then (if met < nI 3 then nI 0 else nI 2) else if k = nI 5 then nI 5 else if k = nI 6 then nI 1 + (day - day / nI 2 * nI 2) else nI 0
def mvs (k day : Int32) : Int32 := if k = nI 2 then b2i (day - day / nI 3 * nI 3 = 0) else if k = nI 3 then b2i (day - day / nI 3 * nI 3 = 0) + nI 1 else if k = nI 4 then nI 2 * (b2i (day - day / nI 3 * nI 3 = 0) + nI 1) else nI 0
def tch (k c : Int32) : Int32 := if k = nI 1 then nI 0 else if k = nI 2 then c else if k = nI 3 then nI 1 else if k = nI 4 then b2i (c = 0) else if k = nI 5 then nI 0 else if k = nI 6 then nI 0 else c
def iab (x : Int32) : Int32 := if 0 ≤ x then x else 0 - x
def imx (x y : Int32) : Int32 := if x < y then y else x
def imn (x y : Int32) : Int32 := if y < x then y else x
abbrev care (c : Int32) (t : Nat) : Prop := c >>> (nI t &&& 31) &&& nI 1 = nI 1
def sght (r : Nat → Int32) (w t : Nat) : Int32 := if care (r (44 + 6 * w + 3)) t then dmm (r (20 + 3 * t)) (r (20 + 3 * t + 2)) (r 0) else clr (r (20 + 3 * t))
abbrev see (r : Nat → Int32) (w t : Nat) : Prop := iab (r (44 + 6 * w) - r (20 + 3 * t + 1)) ≤ sght r w t
abbrev fnd (r : Nat → Int32) (w t : Nat) : Prop := ∃ o, o < nW r ∧ (r (44 + 6 * o) = r (44 + 6 * w) ∧ see r o t)
