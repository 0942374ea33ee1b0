/-- two rows that tell the same common: what isn't alive doesn't count -/
def eqv (ρ ν : Nat → Int32) : Prop := (∀ p, p < 20 → ρ p = ν p) ∧ (∀ t f, t < nT ρ → f < 3 → ρ (20 + 3 * t + f) = ν (20 + 3 * t + f)) ∧ (∀ w f, w < nW ρ → f < 6 → ρ (44 + 6 * w + f) = ν (44 + 6 * w + f))
theorem eqv.nT {ρ ν : Nat → Int32} (h : eqv ρ ν) : nT ρ = nT ν := by show (ρ 1).toNatClampNeg = (ν 1).toNatClampNeg; rw [h.1 1 (by omega)]
theorem eqv.nW {ρ ν : Nat → Int32} (h : eqv ρ ν) : nW ρ = nW ν := by show (ρ 3).toNatClampNeg = (ν 3).toNatClampNeg; rw [h.1 3 (by omega)]
theorem eqv.nD {ρ ν : Nat → Int32} (h : eqv ρ ν) : nD ρ = nD ν := by show (ρ 0).toNatClampNeg = (ν 0).toNatClampNeg; rw [h.1 0 (by omega)]
theorem eqv.rf {ρ : Nat → Int32} : eqv ρ ρ := ⟨fun _ _ => rfl, fun _ _ _ _ => rfl, fun _ _ _ _ => rfl⟩
theorem eqv.sy {ρ ν : Nat → Int32} (h : eqv ρ ν) : eqv ν ρ := ⟨fun p hp => (h.1 p hp).symm, fun t f ht hf => (h.2.1 t f (by rw [h.nT]; exact ht) hf).symm, fun w f hw hf => (h.2.2 w f (by rw [h.nW]; exact hw) hf).symm⟩
theorem eqv.tr {ρ ν μ : Nat → Int32} (h : eqv ρ ν) (g : eqv ν μ) : eqv ρ μ := ⟨fun p hp => (h.1 p hp).trans (g.1 p hp), fun t f ht hf => (h.2.1 t f ht hf).trans (g.2.1 t f (by rw [← h.nT]; exact ht) hf), fun w f hw hf => (h.2.2 w f hw hf).trans (g.2.2 w f (by rw [← h.nW]; exact hw) hf)⟩
theorem eqv.up {ρ ν : Nat → Int32} (h : eqv ρ ν) {p : Nat} (v : Int32) (h1 : ¬ p = 1) (h3 : ¬ p = 3) : eqv (upd ρ p v) (upd ν p v) := by
  have key : ∀ q, ρ q = ν q → upd ρ p v q = upd ν p v q := fun q hq => by
    by_cases z : q = p
    · subst z; rw [upd_at, upd_at]
    · rw [upN z, upN z]; exact hq
  exact ⟨fun q hq => key q (h.1 q hq), fun t f ht hf => key _ (h.2.1 t f (by rw [nT_up h1] at ht; exact ht) hf), fun w f hw hf => key _ (h.2.2 w f (by rw [nW_up h3] at hw; exact hw) hf)⟩
theorem eqv.tp {ρ ν : Nat → Int32} (h : eqv ρ ν) {t : Nat} (ht : (ρ 1).toNatClampNeg > t) (f : Nat) (hf : f < 3) : ρ (20 + 3 * t + f) = ν (20 + 3 * t + f) := h.2.1 t f ht hf
theorem eqv.wp {ρ ν : Nat → Int32} (h : eqv ρ ν) {w : Nat} (hw : (ρ 3).toNatClampNeg > w) (f : Nat) (hf : f < 6) : ρ (44 + 6 * w + f) = ν (44 + 6 * w + f) := h.2.2 w f hw hf
theorem sght_e {ρ ν : Nat → Int32} (h : eqv ρ ν) {w t : Nat} (hw : w < nW ρ) (ht : t < nT ρ) : sght ρ w t = sght ν w t := by
  have a := h.wp hw 3 (by omega)
  have b := h.tp ht 0 (by omega)
  have c := h.tp ht 2 (by omega)
  have d := h.1 0 (by omega)
  unfold sght
  rw [Nat.add_zero] at b
  rw [a, b, c, d]
theorem see_e {ρ ν : Nat → Int32} (h : eqv ρ ν) {w t : Nat} (hw : w < nW ρ) (ht : t < nT ρ) : see ρ w t ↔ see ν w t := by
  have a := h.wp hw 0 (by omega)
  have b := h.tp ht 1 (by omega)
  rw [Nat.add_zero] at a
  show iab (ρ (44 + 6 * w) - ρ (20 + 3 * t + 1)) ≤ sght ρ w t ↔ iab (ν (44 + 6 * w) - ν (20 + 3 * t + 1)) ≤ sght ν w t
  rw [a, b, sght_e h hw ht]
theorem fnd_e {ρ ν : Nat → Int32} (h : eqv ρ ν) {w t : Nat} (hw : w < nW ρ) (ht : t < nT ρ) : fnd ρ w t ↔ fnd ν w t := by
  have b := h.wp hw 0 (by omega)
  rw [Nat.add_zero] at b
  constructor
  · rintro ⟨o, ho, h1, h2⟩
    have a := h.wp ho 0 (by omega)
    rw [Nat.add_zero] at a
    exact ⟨o, by rw [← h.nW]; exact ho, by rw [← a, ← b]; exact h1, (see_e h ho ht).mp h2⟩
  · rintro ⟨o, ho, h1, h2⟩
    rw [← h.nW] at ho
    have a := h.wp ho 0 (by omega)
    rw [Nat.add_zero] at a
    exact ⟨o, ho, by rw [a, b]; exact h1, (see_e h ho ht).mpr h2⟩
theorem isT_e {ρ ν : Nat → Int32} (h : eqv ρ ν) {x : Int32} : isT ρ x ↔ isT ν x := by
  show nI 0 ≤ x ∧ x < ρ 1 ↔ nI 0 ≤ x ∧ x < ν 1
  rw [h.1 1 (by omega)]
theorem isW_e {ρ ν : Nat → Int32} (h : eqv ρ ν) {x : Int32} : isW ρ x ↔ isW ν x := by
  show nI 0 ≤ x ∧ x < ρ 3 ↔ nI 0 ≤ x ∧ x < ν 3
  rw [h.1 3 (by omega)]
theorem turnS_e {ρ ν : Nat → Int32} (h : eqv ρ ν) {w t : Nat} (hw : w < nW ρ) : eqv (turnS ρ w t) (turnS ν w t) := by
  unfold turnS
  rw [← h.wp hw 3 (by omega)]
  exact h.up _ (by omega) (by omega)
theorem listS_e {ρ ν : Nat → Int32} (h : eqv ρ ν) (hwf : WF ρ) (x : Int32) : eqv (listS ρ x) (listS ν x) := by
  unfold listS
  by_cases c : isW ρ (x / nI 10) ∧ isT ρ (x - x / nI 10 * nI 10)
  · rw [if_pos c, if_pos ⟨(isW_e h).mp c.1, (isT_e h).mp c.2⟩]
    obtain ⟨w, hw, e⟩ := isW_n hwf c.1
    have := hwf.wl
    rw [e, nI_clamp (by omega)]
    exact turnS_e h hw
  · rw [if_neg c, if_neg (fun z => c ⟨(isW_e h).mpr z.1, (isT_e h).mpr z.2⟩)]
    exact h
theorem arrS_e {ρ ν : Nat → Int32} (h : eqv ρ ν) {w t : Nat} (hw : w < nW ρ) (ht : t < nT ρ) : eqv (arrS ρ w t) (arrS ν w t) := by
  have a3 := h.wp hw 3 (by omega)
  have a4 := h.wp hw 4 (by omega)
  have b0 := h.tp ht 0 (by omega)
  have b2 := h.tp ht 2 (by omega)
  rw [Nat.add_zero] at b0
  unfold arrS
  rw [← a3, ← a4, ← b0, ← b2]
  exact ((h.up _ (by omega) (by omega)).up _ (by omega) (by omega)).up _ (by omega) (by omega)
theorem goS_e {ρ ν : Nat → Int32} (h : eqv ρ ν) {w t : Nat} (hw : w < nW ρ) (ht : t < nT ρ) (b : Prop) [Decidable b] : eqv (goS ρ w t b) (goS ν w t b) := by
  have a0 := h.wp hw 0 (by omega)
  have a2 := h.wp hw 2 (by omega)
  have a5 := h.wp hw 5 (by omega)
  have b1 := h.tp ht 1 (by omega)
  rw [Nat.add_zero] at a0
  unfold goS
  by_cases hb : b
  · rw [if_pos hb, if_pos hb, ← a0, ← a2, ← b1]
    exact h.up _ (by omega) (by omega)
  · rw [if_neg hb, if_neg hb, ← a0, ← a5]
    exact (h.up _ (by omega) (by omega)).up _ (by omega) (by omega)
theorem walkS_e {ρ ν : Nat → Int32} (h : eqv ρ ν) (hwf : WF ρ) {w t : Nat} (hw : w < nW ρ) (ht : t < nT ρ) (b : Prop) [Decidable b] : eqv (walkS ρ w t b) (walkS ν w t b) := by
  have g := goS_e h hw ht b
  have s := goS_same hwf hw ht b
  have hw' : w < nW (goS ρ w t b) := by rw [s.2.2.1]; exact hw
  have ht' : t < nT (goS ρ w t b) := by rw [s.2.1]; exact ht
  have a0 := g.wp hw' 0 (by omega)
  have b1 := h.tp ht 1 (by omega)
  rw [Nat.add_zero] at a0
  unfold walkS
  by_cases c : goS ρ w t b (44 + 6 * w) = ρ (20 + 3 * t + 1)
  · rw [if_pos c, if_pos (by rw [← a0, ← b1]; exact c)]
    exact arrS_e g hw' ht'
  · rw [if_neg c, if_neg (by rw [← a0, ← b1]; exact c)]
    exact g
theorem wlkS_e {ρ ν : Nat → Int32} (h : eqv ρ ν) (hwf : WF ρ) {w : Nat} (hw : w < nW ρ) : eqv (wlkS w ρ) (wlkS w ν) := by
  have a1 := h.wp hw 1 (by omega)
  unfold wlkS
  rw [← a1]
  by_cases c : isT ρ (ρ (44 + 6 * w + 1))
  · rw [if_pos c, if_pos ((isT_e h).mp c)]
    obtain ⟨t, ht, e⟩ := isT_n hwf c
    have := hwf.tl
    rw [e, nI_clamp (by omega), walkS_c (d := fnd ρ w t) (fnd_e h hw ht).symm]
    exact walkS_e h hwf hw ht _
  · rw [if_neg c, if_neg (fun z => c ((isT_e h).mpr z))]
    exact h
theorem movS_e {ρ ν : Nat → Int32} (h : eqv ρ ν) {t : Nat} (ht : t < nT ρ) : eqv (movS t ρ) (movS t ν) := by
  have b0 := h.tp ht 0 (by omega)
  have b1 := h.tp ht 1 (by omega)
  have d := h.1 0 (by omega)
  rw [Nat.add_zero] at b0
  unfold movS
  rw [← b0, ← b1, ← d]
  exact h.up _ (by omega) (by omega)
theorem endS_e {ρ ν : Nat → Int32} (h : eqv ρ ν) : eqv (endS ρ) (endS ν) := by
  unfold endS
  rw [← h.1 0 (by omega)]
  exact h.up _ (by omega) (by omega)
theorem fo_eW {f : Nat → (Nat → Int32) → (Nat → Int32)} (hf : ∀ i μ, WF μ → i < nW μ → Same μ (f i μ)) (he : ∀ i μ κ, WF μ → eqv μ κ → i < nW μ → eqv (f i μ) (f i κ)) {ρ ν : Nat → Int32} (h : eqv ρ ν) (hwf : WF ρ) : ∀ n, n ≤ nW ρ → eqv (fo f n ρ) (fo f n ν)
  | 0, _ => h
  | n + 1, hn => by
    have ih := fo_eW hf he h hwf n (by omega)
    have s := fo_sameW hf hwf n (by omega)
    exact he n _ _ s.1 ih (by rw [s.2.2.1]; omega)
theorem fo_eT {f : Nat → (Nat → Int32) → (Nat → Int32)} (hf : ∀ i μ, WF μ → i < nT μ → Same μ (f i μ)) (he : ∀ i μ κ, WF μ → eqv μ κ → i < nT μ → eqv (f i μ) (f i κ)) {ρ ν : Nat → Int32} (h : eqv ρ ν) (hwf : WF ρ) : ∀ n, n ≤ nT ρ → eqv (fo f n ρ) (fo f n ν)
  | 0, _ => h
  | n + 1, hn => by
    have ih := fo_eT hf he h hwf n (by omega)
    have s := fo_sameT hf hwf n (by omega)
    exact he n _ _ s.1 ih (by rw [s.2.1]; omega)
theorem day1_e {ρ ν : Nat → Int32} (h : eqv ρ ν) (hwf : WF ρ) : eqv (day1 ρ) (day1 ν) := by
  unfold day1
  rw [← h.nD, ← h.1 (4 + nD ρ % 6) (by omega)]
  exact listS_e h hwf _
theorem day2_e {ρ ν : Nat → Int32} (h : eqv ρ ν) (hwf : WF ρ) : eqv (day2 ρ) (day2 ν) := by
  have s := day1_same hwf
  unfold day2
  rw [← h.nW]
  exact fo_eW (fun i μ hμ hi => wlkS_same hμ hi) (fun i μ κ hμ e hi => wlkS_e e hμ hi) (day1_e h hwf) s.1 _ (by rw [s.2.2.1]; exact Nat.le_refl _)
theorem day3_e {ρ ν : Nat → Int32} (h : eqv ρ ν) (hwf : WF ρ) : eqv (day3 ρ) (day3 ν) := by
  have s := day2_same hwf
  unfold day3
  rw [← h.nT]
  exact fo_eT (fun i μ hμ hi => movS_same hμ hi) (fun i μ κ hμ e hi => movS_e e hi) (day2_e h hwf) s.1 _ (by rw [s.2.1]; exact Nat.le_refl _)
theorem dayS_e {ρ ν : Nat → Int32} (h : eqv ρ ν) (hwf : WF ρ) : eqv (dayS ρ) (dayS ν) := endS_e (day3_e h hwf)
abbrev daysS (n : Nat) (ρ : Nat → Int32) : Nat → Int32 := fo (fun _ => dayS) n ρ
theorem daysS_e {ρ ν : Nat → Int32} (h : eqv ρ ν) (hwf : WF ρ) : ∀ n, eqv (daysS n ρ) (daysS n ν)
  | 0 => h
  | n + 1 => dayS_e (daysS_e h hwf n) (days_ok hwf n).1
/-! become -/
theorem cpy_in {f g : Nat → Int32} {o q n j : Nat} (h : j < n) : cpy f o g q n (q + j) = f (o + j) := by
  unfold cpy
  rw [if_pos (by omega), show q + j - q = j by omega]
theorem cpy_out {f g : Nat → Int32} {o q n p : Nat} (h : ¬ (q ≤ p ∧ p < q + n)) : cpy f o g q n p = g p := by
  unfold cpy
  rw [if_neg h]
theorem fo_cpyT {ν μ : Nat → Int32} : ∀ (n p : Nat), fo (fun t μ => cpy ν (20 + 3 * t) μ (20 + 3 * t) 3) n μ p = if 20 ≤ p ∧ p < 20 + 3 * n then ν p else μ p
  | 0, p => by rw [if_neg (by omega)]; rfl
  | n + 1, p => by
    rw [fo_succ]
    show cpy ν (20 + 3 * n) (fo (fun t μ => cpy ν (20 + 3 * t) μ (20 + 3 * t) 3) n μ) (20 + 3 * n) 3 p = _
    by_cases h : 20 + 3 * n ≤ p ∧ p < 20 + 3 * n + 3
    · rw [if_pos (by omega)]
      have := cpy_in (f := ν) (g := fo (fun t μ => cpy ν (20 + 3 * t) μ (20 + 3 * t) 3) n μ) (o := 20 + 3 * n) (q := 20 + 3 * n) (n := 3) (j := p - (20 + 3 * n)) (by omega)
      rw [show 20 + 3 * n + (p - (20 + 3 * n)) = p by omega] at this
      exact this
    · rw [cpy_out h, fo_cpyT n p]
      by_cases h2 : 20 ≤ p ∧ p < 20 + 3 * n
      · rw [if_pos h2, if_pos (by omega)]
      · rw [if_neg h2, if_neg (by omega)]
theorem fo_cpyW {ν μ : Nat → Int32} : ∀ (n p : Nat), fo (fun t μ => cpy ν (44 + 6 * t) μ (44 + 6 * t) 6) n μ p = if 44 ≤ p ∧ p < 44 + 6 * n then ν p else μ p
  | 0, p => by rw [if_neg (by omega)]; rfl
  | n + 1, p => by
    rw [fo_succ]
    show cpy ν (44 + 6 * n) (fo (fun t μ => cpy ν (44 + 6 * t) μ (44 + 6 * t) 6) n μ) (44 + 6 * n) 6 p = _
    by_cases h : 44 + 6 * n ≤ p ∧ p < 44 + 6 * n + 6
    · rw [if_pos (by omega)]
      have := cpy_in (f := ν) (g := fo (fun t μ => cpy ν (44 + 6 * t) μ (44 + 6 * t) 6) n μ) (o := 44 + 6 * n) (q := 44 + 6 * n) (n := 6) (j := p - (44 + 6 * n)) (by omega)
      rw [show 44 + 6 * n + (p - (44 + 6 * n)) = p by omega] at this
      exact this
    · rw [cpy_out h, fo_cpyW n p]
      by_cases h2 : 44 ≤ p ∧ p < 44 + 6 * n
      · rw [if_pos h2, if_pos (by omega)]
      · rw [if_neg h2, if_neg (by omega)]
theorem becS_at {ρ ν : Nat → Int32} (h : WF ν) (p : Nat) : becS ρ ν p = if p = 0 ∨ p = 1 ∨ p = 2 ∨ p = 3 ∨ (4 ≤ p ∧ p < 20) ∨ (20 ≤ p ∧ p < 20 + 3 * nT ν) ∨ (44 ≤ p ∧ p < 44 + 6 * nW ν) then ν p else ρ p := by
  have := h.tl
  have := h.wl
  unfold becS
  by_cases p2 : p = 2
  · subst p2; rw [upd_at, if_pos (by omega)]
  rw [upN p2]
  by_cases p0 : p = 0
  · subst p0; rw [upd_at, if_pos (by omega)]
  rw [upN p0]
  by_cases p3 : p = 3
  · subst p3; rw [upd_at, if_pos (by omega)]
  rw [upN p3]
  by_cases p1 : p = 1
  · subst p1; rw [upd_at, if_pos (by omega)]
  rw [upN p1]
  by_cases h1 : 10 ≤ p ∧ p < 10 + 10
  · rw [if_pos (by omega)]
    have e := cpy_in (f := ν) (g := bec2 ρ ν) (o := 10) (q := 10) (n := 10) (j := p - 10) (by omega)
    rw [show 10 + (p - 10) = p by omega] at e
    exact e
  rw [cpy_out h1]
  unfold bec2
  rw [fo_cpyW]
  by_cases h2 : 44 ≤ p ∧ p < 44 + 6 * nW ν
  · rw [if_pos h2, if_pos (by omega)]
  rw [if_neg h2]
  unfold bec1
  rw [fo_cpyT]
  by_cases h3 : 20 ≤ p ∧ p < 20 + 3 * nT ν
  · rw [if_pos h3, if_pos (by omega)]
  rw [if_neg h3]
  by_cases h4 : 4 ≤ p ∧ p < 4 + 6
  · rw [if_pos (by omega)]
    have e := cpy_in (f := ν) (g := ρ) (o := 4) (q := 4) (n := 6) (j := p - 4) (by omega)
    rw [show 4 + (p - 4) = p by omega] at e
    exact e
  · rw [cpy_out h4, if_neg (by omega)]
theorem becS_e {ρ ν : Nat → Int32} (h : WF ν) : eqv (becS ρ ν) ν := by
  have e1 : nT (becS ρ ν) = nT ν := by unfold nT; rw [becS_at h, if_pos (by omega)]
  have e3 : nW (becS ρ ν) = nW ν := by unfold nW; rw [becS_at h, if_pos (by omega)]
  refine ⟨fun p hp => ?_, fun t f ht hf => ?_, fun w f hw hf => ?_⟩
  · rw [becS_at h, if_pos (by omega)]
  · rw [becS_at h, if_pos (by rw [e1] at ht; omega)]
  · rw [becS_at h, if_pos (by rw [e3] at hw; omega)]
theorem WF_e {ρ ν : Nat → Int32} (h : eqv ρ ν) (hwf : WF ν) : WF ρ := by
  obtain ⟨⟨a1, a2⟩, ⟨b1, b2⟩, ⟨c1, c2⟩, d, e, f⟩ := hwf
  refine ⟨⟨?_, by rw [h.nD]; exact a2⟩, ⟨?_, by rw [h.nT]; exact b2⟩, ⟨?_, by rw [h.nW]; exact c2⟩, fun t ht => ?_, fun w hw => ?_, fun i hi => ?_⟩
  · rw [h.nD, h.1 0 (by omega)]; exact a1
  · rw [h.nT, h.1 1 (by omega)]; exact b1
  · rw [h.nW, h.1 3 (by omega)]; exact c1
  · have q0 := h.tp ht 0 (by omega)
    rw [Nat.add_zero] at q0
    rw [q0, h.tp ht 1 (by omega)]
    exact d t (by rw [← h.nT]; exact ht)
  · have q0 := h.wp hw 0 (by omega)
    rw [Nat.add_zero] at q0
    rw [q0, h.wp hw 2 (by omega)]
    exact e w (by rw [← h.nW]; exact hw)
  · rw [h.1 (10 + i) (by omega), h.nT]
    exact f i hi
theorem becS_wf {ρ ν : Nat → Int32} (h : WF ν) : WF (becS ρ ν) := WF_e (becS_e h) h
