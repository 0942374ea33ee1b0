def fo {α : Type} (f : Nat → α → α) : Nat → α → α
  | 0, s => s
  | n + 1, s => f n (fo f n s)
theorem upN {f : Nat → Int32} {k j : Nat} {x : Int32} (h : ¬ j = k) : upd f k x j = f j := upd_ne h
theorem nT_up {ρ : Nat → Int32} {p : Nat} {v : Int32} (h : ¬ p = 1) : nT (upd ρ p v) = nT ρ := by unfold nT; rw [upN (by omega)]
theorem nW_up {ρ : Nat → Int32} {p : Nat} {v : Int32} (h : ¬ p = 3) : nW (upd ρ p v) = nW ρ := by unfold nW; rw [upN (by omega)]
theorem nD_up {ρ : Nat → Int32} {p : Nat} {v : Int32} (h : ¬ p = 0) : nD (upd ρ p v) = nD ρ := by unfold nD; rw [upN (by omega)]
/-- a change at one place keeps WF, if what WF says of that place is kept -/
theorem WF_gen {ρ : Nat → Int32} {p : Nat} {v : Int32} (h : WF ρ) (h1 : ¬ p = 1) (h3 : ¬ p = 3) (h0 : p = 0 → ∃ d, d ≤ 99999 ∧ v = nI d)
    (hk : ∀ t, t < nT ρ → p = 20 + 3 * t → ∃ j, j ≤ 6 ∧ v = nI j) (hc : ∀ t, t < nT ρ → p = 20 + 3 * t + 1 → ∃ j, j ≤ 15 ∧ v = nI j)
    (hw : ∀ w, w < nW ρ → p = 44 + 6 * w → ∃ j, j ≤ 15 ∧ v = nI j) (hp : ∀ w, w < nW ρ → p = 44 + 6 * w + 2 → ∃ j, 1 ≤ j ∧ j ≤ 5 ∧ v = nI j)
    (hs : ∀ i, i < 10 → p = 10 + i → v = -1 ∨ ∃ j, j < nT ρ ∧ v = nI j) : WF (upd ρ p v) := by
  obtain ⟨⟨a1, a2⟩, ⟨b1, b2⟩, ⟨c1, c2⟩, d, e, f⟩ := h
  refine ⟨?_, ⟨?_, ?_⟩, ⟨?_, ?_⟩, ?_, ?_, ?_⟩
  · by_cases z : p = 0
    · subst z
      obtain ⟨n, hn, rfl⟩ := h0 rfl
      unfold nD
      rw [upd_at, nI_clamp (by omega)]
      exact ⟨rfl, hn⟩
    · unfold nD
      rw [upN (by omega)]
      exact ⟨a1, a2⟩
  · unfold nT; rw [upN (by omega)]; exact b1
  · rw [nT_up h1]; exact b2
  · unfold nW; rw [upN (by omega)]; exact c1
  · rw [nW_up h3]; exact c2
  · rw [nT_up h1]
    intro t ht
    refine ⟨?_, ?_⟩
    · by_cases z : p = 20 + 3 * t
      · rw [← z, upd_at]; exact hk t ht z
      · rw [upN (fun q => z q.symm)]; exact (d t ht).1
    · by_cases z : p = 20 + 3 * t + 1
      · rw [← z, upd_at]; exact hc t ht z
      · rw [upN (fun q => z q.symm)]; exact (d t ht).2
  · rw [nW_up h3]
    intro w hw'
    refine ⟨?_, ?_⟩
    · by_cases z : p = 44 + 6 * w
      · rw [← z, upd_at]; exact hw w hw' z
      · rw [upN (fun q => z q.symm)]; exact (e w hw').1
    · by_cases z : p = 44 + 6 * w + 2
      · rw [← z, upd_at]; exact hp w hw' z
      · rw [upN (fun q => z q.symm)]; exact (e w hw').2
  · rw [nT_up h1]
    intro i hi
    by_cases z : p = 10 + i
    · rw [← z, upd_at]; exact hs i hi z
    · rw [upN (fun q => z q.symm)]; exact f i hi
/-- places of which WF says nothing -/
theorem WF_free {ρ : Nat → Int32} {p : Nat} {v : Int32} (h : WF ρ) (h0 : ¬ p = 0 ∧ ¬ p = 1 ∧ ¬ p = 3 ∧ (p < 10 ∨ 20 ≤ p) ∧ (20 ≤ p → p < 44 → (p - 20) % 3 = 2) ∧ (44 ≤ p → ¬ (p - 44) % 6 = 0 ∧ ¬ (p - 44) % 6 = 2)) : WF (upd ρ p v) := by
  have := h.tl
  have := h.wl
  exact WF_gen h h0.2.1 h0.2.2.1 (fun z => absurd z h0.1) (fun t ht z => by exfalso; omega) (fun t ht z => by exfalso; omega) (fun t ht z => by exfalso; omega) (fun t ht z => by exfalso; omega) (fun t ht z => by exfalso; omega)
theorem WF_tk {ρ : Nat → Int32} {t j : Nat} (h : WF ρ) (ht : t < 8) (hj : j ≤ 6) : WF (upd ρ (20 + 3 * t) (nI j)) := by
  have := h.tl
  have := h.wl
  exact WF_gen h (by omega) (by omega) (fun z => by exfalso; omega) (fun _ _ _ => ⟨j, hj, rfl⟩) (fun t ht z => by exfalso; omega) (fun t ht z => by exfalso; omega) (fun t ht z => by exfalso; omega) (fun t ht z => by exfalso; omega)
theorem WF_tc {ρ : Nat → Int32} {t j : Nat} (h : WF ρ) (ht : t < 8) (hj : j ≤ 15) : WF (upd ρ (20 + 3 * t + 1) (nI j)) := by
  have := h.tl
  have := h.wl
  exact WF_gen h (by omega) (by omega) (fun z => by exfalso; omega) (fun t ht z => by exfalso; omega) (fun _ _ _ => ⟨j, hj, rfl⟩) (fun t ht z => by exfalso; omega) (fun t ht z => by exfalso; omega) (fun t ht z => by exfalso; omega)
theorem WF_wc {ρ : Nat → Int32} {w j : Nat} (h : WF ρ) (hw : w < 6) (hj : j ≤ 15) : WF (upd ρ (44 + 6 * w) (nI j)) := by
  have := h.tl
  have := h.wl
  exact WF_gen h (by omega) (by omega) (fun z => by exfalso; omega) (fun t ht z => by exfalso; omega) (fun t ht z => by exfalso; omega) (fun _ _ _ => ⟨j, hj, rfl⟩) (fun t ht z => by exfalso; omega) (fun t ht z => by exfalso; omega)
theorem WF_wp {ρ : Nat → Int32} {w j : Nat} (h : WF ρ) (hw : w < 6) (h1 : 1 ≤ j) (hj : j ≤ 5) : WF (upd ρ (44 + 6 * w + 2) (nI j)) := by
  have := h.tl
  have := h.wl
  exact WF_gen h (by omega) (by omega) (fun z => by exfalso; omega) (fun t ht z => by exfalso; omega) (fun t ht z => by exfalso; omega) (fun t ht z => by exfalso; omega) (fun _ _ _ => ⟨j, h1, hj, rfl⟩) (fun t ht z => by exfalso; omega)
theorem WF_dy {ρ : Nat → Int32} {j : Nat} (h : WF ρ) (hj : j ≤ 99999) : WF (upd ρ 0 (nI j)) := by
  have := h.tl
  have := h.wl
  exact WF_gen h (by omega) (by omega) (fun _ => ⟨j, hj, rfl⟩) (fun t ht z => by exfalso; omega) (fun t ht z => by exfalso; omega) (fun t ht z => by exfalso; omega) (fun t ht z => by exfalso; omega) (fun t ht z => by exfalso; omega)
theorem WF_sp {ρ : Nat → Int32} {i : Nat} {v : Int32} (h : WF ρ) (hi : i < 10) (hv : v = -1 ∨ ∃ j, j < nT ρ ∧ v = nI j) : WF (upd ρ (10 + i) v) := by
  have := h.tl
  have := h.wl
  exact WF_gen h (by omega) (by omega) (fun z => by exfalso; omega) (fun t ht z => by exfalso; omega) (fun t ht z => by exfalso; omega) (fun t ht z => by exfalso; omega) (fun t ht z => by exfalso; omega) (fun _ _ _ => hv)
theorem WF.tk {r : Nat → Int32} (h : WF r) {t : Nat} (ht : t < nT r) : ∃ j, j ≤ 6 ∧ r (20 + 3 * t) = nI j := (h.2.2.2.1 t ht).1
theorem WF.tc {r : Nat → Int32} (h : WF r) {t : Nat} (ht : t < nT r) : ∃ j, j ≤ 15 ∧ r (20 + 3 * t + 1) = nI j := (h.2.2.2.1 t ht).2
theorem WF.wc {r : Nat → Int32} (h : WF r) {w : Nat} (hw : w < nW r) : ∃ j, j ≤ 15 ∧ r (44 + 6 * w) = nI j := (h.2.2.2.2.1 w hw).1
theorem WF.wp {r : Nat → Int32} (h : WF r) {w : Nat} (hw : w < nW r) : ∃ j, 1 ≤ j ∧ j ≤ 5 ∧ r (44 + 6 * w + 2) = nI j := (h.2.2.2.2.1 w hw).2
theorem WF.sp {r : Nat → Int32} (h : WF r) {i : Nat} (hi : i < 10) : r (10 + i) = -1 ∨ ∃ j, j < nT r ∧ r (10 + i) = nI j := h.2.2.2.2.2 i hi
/-! the day -/
abbrev bt (t : Nat) : Int32 := nI 1 <<< (nI t &&& 31)
def puts (c : Int32) (t : Nat) (b : Prop) [Decidable b] : Int32 := if b then c ||| bt t else c &&& (bt t ^^^ (-1))
def inc9 (x : Int32) : Int32 := imn (x + nI 1) (nI 9999)
def stp (c to p : Int32) : Int32 := if c < to then imn to (c + p) else imx to (c - p)
def turnS (ρ : Nat → Int32) (w t : Nat) : Nat → Int32 := upd ρ (44 + 6 * w + 3) (puts (ρ (44 + 6 * w + 3)) t (¬ care (ρ (44 + 6 * w + 3)) t))
def listS (ρ : Nat → Int32) (x : Int32) : Nat → Int32 := if isW ρ (x / nI 10) ∧ isT ρ (x - x / nI 10 * nI 10) then turnS ρ (x / nI 10).toNatClampNeg (x - x / nI 10 * nI 10).toNatClampNeg else ρ
def arrS (ρ : Nat → Int32) (w t : Nat) : Nat → Int32 :=
  upd (upd (upd ρ (44 + 6 * w + 4) (inc9 (ρ (44 + 6 * w + 4)))) (20 + 3 * t + 2) (inc9 (ρ (20 + 3 * t + 2)))) (44 + 6 * w + 3) (puts (ρ (44 + 6 * w + 3)) t (¬ tch (ρ (20 + 3 * t)) (b2i (care (ρ (44 + 6 * w + 3)) t)) = 0))
def goS (ρ : Nat → Int32) (w t : Nat) (b : Prop) [Decidable b] : Nat → Int32 :=
  if b then upd ρ (44 + 6 * w) (stp (ρ (44 + 6 * w)) (ρ (20 + 3 * t + 1)) (ρ (44 + 6 * w + 2)))
  else upd (upd ρ (44 + 6 * w) (ρ (44 + 6 * w) + nI 1 - (ρ (44 + 6 * w) + nI 1) / nI 16 * nI 16)) (44 + 6 * w + 5) (inc9 (ρ (44 + 6 * w + 5)))
def walkS (ρ : Nat → Int32) (w t : Nat) (b : Prop) [Decidable b] : Nat → Int32 :=
  if goS ρ w t b (44 + 6 * w) = ρ (20 + 3 * t + 1) then arrS (goS ρ w t b) w t else goS ρ w t b
def wlkS (w : Nat) (ρ : Nat → Int32) : Nat → Int32 := if isT ρ (ρ (44 + 6 * w + 1)) then walkS ρ w (ρ (44 + 6 * w + 1)).toNatClampNeg (fnd ρ w (ρ (44 + 6 * w + 1)).toNatClampNeg) else ρ
def movS (t : Nat) (ρ : Nat → Int32) : Nat → Int32 := upd ρ (20 + 3 * t + 1) (ρ (20 + 3 * t + 1) + mvs (ρ (20 + 3 * t)) (ρ 0) - (ρ (20 + 3 * t + 1) + mvs (ρ (20 + 3 * t)) (ρ 0)) / nI 16 * nI 16)
def endS (ρ : Nat → Int32) : Nat → Int32 := upd ρ 0 (imn (ρ 0 + nI 1) (nI 99999))
def day1 (ρ : Nat → Int32) : Nat → Int32 := listS ρ (ρ (4 + nD ρ % 6))
def day2 (ρ : Nat → Int32) : Nat → Int32 := fo wlkS (nW ρ) (day1 ρ)
def day3 (ρ : Nat → Int32) : Nat → Int32 := fo movS (nT ρ) (day2 ρ)
def dayS (ρ : Nat → Int32) : Nat → Int32 := endS (day3 ρ)
/-- what stays over a day -/
def Same (ρ ν : Nat → Int32) : Prop := WF ν ∧ nT ν = nT ρ ∧ nW ν = nW ρ ∧ ν 0 = ρ 0
theorem Same.rf {ρ : Nat → Int32} (h : WF ρ) : Same ρ ρ := ⟨h, rfl, rfl, rfl⟩
theorem Same.tr {ρ ν μ : Nat → Int32} (h : Same ρ ν) (g : Same ν μ) : Same ρ μ := ⟨g.1, g.2.1.trans h.2.1, g.2.2.1.trans h.2.2.1, g.2.2.2.trans h.2.2.2⟩
theorem Same.up {ρ : Nat → Int32} {p : Nat} {v : Int32} (h : WF (upd ρ p v)) (hp : ¬ p = 0 ∧ ¬ p = 1 ∧ ¬ p = 3) : Same ρ (upd ρ p v) := ⟨h, nT_up hp.2.1, nW_up hp.2.2, upN (by omega)⟩
theorem turnS_same {ρ : Nat → Int32} {w t : Nat} (h : WF ρ) (hw : w < nW ρ) : Same ρ (turnS ρ w t) := by
  have := h.wl
  exact Same.up (WF_free h (by omega)) (by omega)
theorem listS_same {ρ : Nat → Int32} {x : Int32} (h : WF ρ) : Same ρ (listS ρ x) := by
  unfold listS
  by_cases c : isW ρ (x / nI 10) ∧ isT ρ (x - x / nI 10 * nI 10)
  · rw [if_pos c]
    obtain ⟨w, hw, e⟩ := isW_n h c.1
    have := h.wl
    rw [e, nI_clamp (by omega)]
    exact turnS_same h hw
  · rw [if_neg c]
    exact Same.rf h
theorem arrS_same {ρ : Nat → Int32} {w t : Nat} (h : WF ρ) (hw : w < nW ρ) (ht : t < nT ρ) : Same ρ (arrS ρ w t) := by
  have := h.wl
  have := h.tl
  unfold arrS
  have h1 := Same.up (v := inc9 (ρ (44 + 6 * w + 4))) (WF_free (p := 44 + 6 * w + 4) h (by omega)) (by omega)
  have h2 := Same.up (v := inc9 (ρ (20 + 3 * t + 2))) (WF_free (p := 20 + 3 * t + 2) h1.1 (by omega)) (by omega)
  exact (h1.tr h2).tr (Same.up (WF_free h2.1 (by omega)) (by omega))
