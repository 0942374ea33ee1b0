/-! cares for things that are not there change nothing -/
def ecv (ρ ν : Nat → Int32) : Prop := (∀ p, p < 20 → ρ p = ν p) ∧ (∀ t f, t < nT ρ → f < 3 → ρ (20 + 3 * t + f) = ν (20 + 3 * t + f)) ∧ (∀ w f, w < nW ρ → f < 6 → ¬ f = 3 → ρ (44 + 6 * w + f) = ν (44 + 6 * w + f)) ∧ (∀ w t, w < nW ρ → t < nT ρ → (care (ρ (44 + 6 * w + 3)) t ↔ care (ν (44 + 6 * w + 3)) t))
theorem ecv_nT {ρ ν : Nat → Int32} (h : ecv ρ ν) : nT ρ = nT ν := by show (ρ 1).toNatClampNeg = (ν 1).toNatClampNeg; rw [h.1 1 (by omega)]
theorem ecv_nW {ρ ν : Nat → Int32} (h : ecv ρ ν) : nW ρ = nW ν := by show (ρ 3).toNatClampNeg = (ν 3).toNatClampNeg; rw [h.1 3 (by omega)]
theorem ecv_nD {ρ ν : Nat → Int32} (h : ecv ρ ν) : nD ρ = nD ν := by show (ρ 0).toNatClampNeg = (ν 0).toNatClampNeg; rw [h.1 0 (by omega)]
theorem ecv_up {ρ ν : Nat → Int32} (h : ecv ρ ν) {p : Nat} (v : Int32) (h1 : ¬ p = 1) (h3 : ¬ p = 3) (hc : ∀ w, ¬ p = 44 + 6 * w + 3) : ecv (upd ρ p v) (upd ν p v) := by
  have key : ∀ q, ρ q = ν q → upd ρ p v q = upd ν p v q := fun q hq => by
    by_cases z : q = p
    · subst z; rw [upd_at, upd_at]
    · rw [upN z, upN z]; exact hq
  refine ⟨fun q hq => key q (h.1 q hq), fun t f ht hf => key _ (h.2.1 t f (by rw [nT_up h1] at ht; exact ht) hf), fun w f hw hf h4 => key _ (h.2.2.1 w f (by rw [nW_up h3] at hw; exact hw) hf h4), fun w t hw ht => ?_⟩
  rw [nT_up h1] at ht
  rw [nW_up h3] at hw
  rw [upN (fun z => hc w z.symm), upN (fun z => hc w z.symm)]
  exact h.2.2.2 w t hw ht
theorem ecv_cr {ρ ν : Nat → Int32} (h : ecv ρ ν) (hl : nT ρ ≤ 8) {w : Nat} {c d : Int32} (hcd : ∀ t, t < nT ρ → (care c t ↔ care d t)) : ecv (upd ρ (44 + 6 * w + 3) c) (upd ν (44 + 6 * w + 3) d) := by
  refine ⟨fun q hq => ?_, fun t f ht hf => ?_, fun o f ho hf h4 => ?_, fun o t ho ht => ?_⟩
  · rw [upN (by omega), upN (by omega)]; exact h.1 q hq
  · rw [nT_up (by omega)] at ht
    rw [upN (by omega), upN (by omega)]; exact h.2.1 t f ht hf
  · rw [nW_up (by omega)] at ho
    rw [upN (by omega), upN (by omega)]; exact h.2.2.1 o f ho hf h4
  · rw [nT_up (by omega)] at ht
    rw [nW_up (by omega)] at ho
    by_cases z : o = w
    · rw [z, upd_at, upd_at]; exact hcd t ht
    · rw [upN (by omega), upN (by omega)]; exact h.2.2.2 o t ho ht
theorem ecv_w0 {ρ ν : Nat → Int32} (h : ecv ρ ν) {w : Nat} (hw : w < nW ρ) : ρ (44 + 6 * w) = ν (44 + 6 * w) := h.2.2.1 w 0 hw (by omega) (by omega)
theorem ecv_t0 {ρ ν : Nat → Int32} (h : ecv ρ ν) {t : Nat} (ht : t < nT ρ) : ρ (20 + 3 * t) = ν (20 + 3 * t) := h.2.1 t 0 ht (by omega)
theorem sght_c {ρ ν : Nat → Int32} (h : ecv ρ ν) {w t : Nat} (hw : w < nW ρ) (ht : t < nT ρ) : sght ρ w t = sght ν w t := by
  have a := h.2.2.2 w t hw ht
  have b := ecv_t0 h ht
  have c := h.2.1 t 2 ht (by omega)
  have d := h.1 0 (by omega)
  unfold sght
  rw [← b, ← c, ← d]
  by_cases z : care (ρ (44 + 6 * w + 3)) t
  · rw [if_pos z, if_pos (a.mp z)]
  · rw [if_neg z, if_neg (fun y => z (a.mpr y))]
theorem see_c {ρ ν : Nat → Int32} (h : ecv ρ ν) {w t : Nat} (hw : w < nW ρ) (ht : t < nT ρ) : see ρ w t ↔ see ν w t := by
  have a := ecv_w0 h hw
  have b := h.2.1 t 1 ht (by omega)
  show iab (ρ (44 + 6 * w) - ρ (20 + 3 * t + 1)) ≤ sght ρ w t ↔ iab (ν (44 + 6 * w) - ν (20 + 3 * t + 1)) ≤ sght ν w t
  rw [a, b, sght_c h hw ht]
theorem fnd_c {ρ ν : Nat → Int32} (h : ecv ρ ν) {w t : Nat} (hw : w < nW ρ) (ht : t < nT ρ) : fnd ρ w t ↔ fnd ν w t := by
  have b := ecv_w0 h hw
  constructor
  · rintro ⟨o, ho, h1, h2⟩
    have a := ecv_w0 h ho
    exact ⟨o, by rw [← ecv_nW h]; exact ho, by rw [← a, ← b]; exact h1, (see_c h ho ht).mp h2⟩
  · rintro ⟨o, ho, h1, h2⟩
    rw [← ecv_nW h] at ho
    have a := ecv_w0 h ho
    exact ⟨o, ho, by rw [a, b]; exact h1, (see_c h ho ht).mpr h2⟩
theorem isT_c {ρ ν : Nat → Int32} (h : ecv ρ ν) {x : Int32} : isT ρ x ↔ isT ν x := by
  show nI 0 ≤ x ∧ x < ρ 1 ↔ nI 0 ≤ x ∧ x < ν 1
  rw [h.1 1 (by omega)]
theorem isW_c {ρ ν : Nat → Int32} (h : ecv ρ ν) {x : Int32} : isW ρ x ↔ isW ν x := by
  show nI 0 ≤ x ∧ x < ρ 3 ↔ nI 0 ≤ x ∧ x < ν 3
  rw [h.1 3 (by omega)]
theorem puts_care {c : Int32} {t i : Nat} {b : Prop} [Decidable b] (ht : t < 8) (hi : i < 8) : care (puts c t b) i ↔ if i = t then b else care c i := by
  rw [care_bit hi, puts_bit ht (by omega)]
  by_cases z : i = t
  · rw [if_pos z, if_pos z, decide_eq_true_eq]
  · rw [if_neg z, if_neg z, care_bit hi]
theorem puts_2 {n : Nat} {c d : Int32} (hn : n ≤ 8) (h : ∀ i, i < n → (care c i ↔ care d i)) {t : Nat} (ht : t < n) {b e : Prop} [Decidable b] [Decidable e] (hbe : b ↔ e) : ∀ i, i < n → (care (puts c t b) i ↔ care (puts d t e) i) := by
  intro i hi
  rw [puts_care (by omega) (by omega), puts_care (by omega) (by omega)]
  by_cases z : i = t
  · rw [if_pos z, if_pos z]; exact hbe
  · rw [if_neg z, if_neg z]; exact h i hi
theorem turnS_c {ρ ν : Nat → Int32} (h : ecv ρ ν) (hl : nT ρ ≤ 8) {w t : Nat} (hw : w < nW ρ) (ht : t < nT ρ) : ecv (turnS ρ w t) (turnS ν w t) := by
  have hc := fun i hi => h.2.2.2 w i hw hi
  exact ecv_cr h hl (puts_2 hl hc ht (not_congr (hc t ht)))
theorem listS_c {ρ ν : Nat → Int32} (h : ecv ρ ν) (hwf : WF ρ) (x : Int32) : ecv (listS ρ x) (listS ν x) := by
  unfold listS
  by_cases c : isW ρ (x / nI 10) ∧ isT ρ (x - x / nI 10 * nI 10)
  · rw [if_pos c, if_pos ⟨(isW_c h).mp c.1, (isT_c h).mp c.2⟩]
    obtain ⟨w, hw, e⟩ := isW_n hwf c.1
    obtain ⟨t, ht, et⟩ := isT_n hwf c.2
    have := hwf.wl
    have := hwf.tl
    rw [e, nI_clamp (by omega), show (x - nI w * nI 10).toNatClampNeg = t from by rw [← e, et, nI_clamp (by omega)]]
    exact turnS_c h hwf.tl hw ht
  · rw [if_neg c, if_neg (fun z => c ⟨(isW_c h).mpr z.1, (isT_c h).mpr z.2⟩)]
    exact h
theorem b2i_cc {p q : Prop} [Decidable p] [Decidable q] (h : p ↔ q) : b2i p = b2i q := by
  unfold b2i
  by_cases z : p
  · rw [if_pos z, if_pos (h.mp z)]
  · rw [if_neg z, if_neg (fun y => z (h.mpr y))]
theorem arrS_c {ρ ν : Nat → Int32} (h : ecv ρ ν) (hl : nT ρ ≤ 8) {w t : Nat} (hw : w < nW ρ) (ht : t < nT ρ) : ecv (arrS ρ w t) (arrS ν w t) := by
  have hc := fun i hi => h.2.2.2 w i hw hi
  have a4 := h.2.2.1 w 4 hw (by omega) (by omega)
  have b0 := ecv_t0 h ht
  have b2 := h.2.1 t 2 ht (by omega)
  have h1 := ecv_up h (p := 44 + 6 * w + 4) (inc9 (ρ (44 + 6 * w + 4))) (by omega) (by omega) (fun o => by omega)
  have h2 := ecv_up h1 (p := 20 + 3 * t + 2) (inc9 (ρ (20 + 3 * t + 2))) (by omega) (by omega) (fun o => by omega)
  unfold arrS
  rw [← a4, ← b2, ← b0]
  refine ecv_cr h2 (by rw [nT_up (by omega), nT_up (by omega)]; exact hl) ?_
  rw [nT_up (by omega), nT_up (by omega)]
  refine puts_2 hl hc ht ?_
  rw [b2i_cc (hc t ht)]
theorem goS_c {ρ ν : Nat → Int32} (h : ecv ρ ν) {w t : Nat} (hw : w < nW ρ) (ht : t < nT ρ) (b : Prop) [Decidable b] : ecv (goS ρ w t b) (goS ν w t b) := by
  have a0 := ecv_w0 h hw
  have a2 := h.2.2.1 w 2 hw (by omega) (by omega)
  have a5 := h.2.2.1 w 5 hw (by omega) (by omega)
  have b1 := h.2.1 t 1 ht (by omega)
  unfold goS
  by_cases hb : b
  · rw [if_pos hb, if_pos hb, ← a0, ← a2, ← b1]
    exact ecv_up h _ (by omega) (by omega) (fun o => by omega)
  · rw [if_neg hb, if_neg hb, ← a0, ← a5]
    exact ecv_up (ecv_up h _ (by omega) (by omega) (fun o => by omega)) _ (by omega) (by omega) (fun o => by omega)
theorem walkS_cc {ρ ν : Nat → Int32} (h : ecv ρ ν) (hwf : WF ρ) {w t : Nat} (hw : w < nW ρ) (ht : t < nT ρ) (b : Prop) [Decidable b] : ecv (walkS ρ w t b) (walkS ν w t b) := by
  have g := goS_c h hw ht b
  have s := goS_same hwf hw ht b
  have hw' : w < nW (goS ρ w t b) := by rw [s.2.2.1]; exact hw
  have ht' : t < nT (goS ρ w t b) := by rw [s.2.1]; exact ht
  have a0 := ecv_w0 g hw'
  have b1 := h.2.1 t 1 ht (by omega)
  unfold walkS
  by_cases c : goS ρ w t b (44 + 6 * w) = ρ (20 + 3 * t + 1)
  · rw [if_pos c, if_pos (by rw [← a0, ← b1]; exact c)]
    exact arrS_c g s.1.tl hw' ht'
  · rw [if_neg c, if_neg (by rw [← a0, ← b1]; exact c)]
    exact g
theorem wlkS_c {ρ ν : Nat → Int32} (h : ecv ρ ν) (hwf : WF ρ) {w : Nat} (hw : w < nW ρ) : ecv (wlkS w ρ) (wlkS w ν) := by
  have a1 := h.2.2.1 w 1 hw (by omega) (by omega)
  unfold wlkS
  rw [← a1]
  by_cases c : isT ρ (ρ (44 + 6 * w + 1))
  · rw [if_pos c, if_pos ((isT_c h).mp c)]
    obtain ⟨t, ht, e⟩ := isT_n hwf c
    have := hwf.tl
    rw [e, nI_clamp (by omega), walkS_c (d := fnd ρ w t) (fnd_c h hw ht).symm]
    exact walkS_cc h hwf hw ht _
  · rw [if_neg c, if_neg (fun z => c ((isT_c h).mpr z))]
    exact h
theorem movS_c {ρ ν : Nat → Int32} (h : ecv ρ ν) (hl : nT ρ ≤ 8) {t : Nat} (ht : t < nT ρ) : ecv (movS t ρ) (movS t ν) := by
  have b0 := ecv_t0 h ht
  have b1 := h.2.1 t 1 ht (by omega)
  have d := h.1 0 (by omega)
  unfold movS
  rw [← b0, ← b1, ← d]
  exact ecv_up h _ (by omega) (by omega) (fun o => by omega)
theorem endS_c {ρ ν : Nat → Int32} (h : ecv ρ ν) : ecv (endS ρ) (endS ν) := by
  unfold endS
  rw [← h.1 0 (by omega)]
  exact ecv_up h _ (by omega) (by omega) (fun o => by omega)
theorem fo_cW {f : Nat → (Nat → Int32) → (Nat → Int32)} (hf : ∀ i μ, WF μ → i < nW μ → Same μ (f i μ)) (he : ∀ i μ κ, WF μ → ecv μ κ → i < nW μ → ecv (f i μ) (f i κ)) {ρ ν : Nat → Int32} (h : ecv ρ ν) (hwf : WF ρ) : ∀ n, n ≤ nW ρ → ecv (fo f n ρ) (fo f n ν)
  | 0, _ => h
  | n + 1, hn => by
    have ih := fo_cW hf he h hwf n (by omega)
    have s := fo_sameW hf hwf n (by omega)
    exact he n _ _ s.1 ih (by rw [s.2.2.1]; omega)
theorem fo_cT {f : Nat → (Nat → Int32) → (Nat → Int32)} (hf : ∀ i μ, WF μ → i < nT μ → Same μ (f i μ)) (he : ∀ i μ κ, WF μ → ecv μ κ → i < nT μ → ecv (f i μ) (f i κ)) {ρ ν : Nat → Int32} (h : ecv ρ ν) (hwf : WF ρ) : ∀ n, n ≤ nT ρ → ecv (fo f n ρ) (fo f n ν)
  | 0, _ => h
  | n + 1, hn => by
    have ih := fo_cT hf he h hwf n (by omega)
    have s := fo_sameT hf hwf n (by omega)
    exact he n _ _ s.1 ih (by rw [s.2.1]; omega)
theorem day1_c {ρ ν : Nat → Int32} (h : ecv ρ ν) (hwf : WF ρ) : ecv (day1 ρ) (day1 ν) := by
  unfold day1
  rw [← ecv_nD h, ← h.1 (4 + nD ρ % 6) (by omega)]
  exact listS_c h hwf _
theorem day2_c {ρ ν : Nat → Int32} (h : ecv ρ ν) (hwf : WF ρ) : ecv (day2 ρ) (day2 ν) := by
  have s := day1_same hwf
  unfold day2
  rw [← ecv_nW h]
  exact fo_cW (fun i μ hμ hi => wlkS_same hμ hi) (fun i μ κ hμ e hi => wlkS_c e hμ hi) (day1_c h hwf) s.1 _ (by rw [s.2.2.1]; exact Nat.le_refl _)
theorem day3_c {ρ ν : Nat → Int32} (h : ecv ρ ν) (hwf : WF ρ) : ecv (day3 ρ) (day3 ν) := by
  have s := day2_same hwf
  unfold day3
  rw [← ecv_nT h]
  exact fo_cT (fun i μ hμ hi => movS_same hμ hi) (fun i μ κ hμ e hi => movS_c e hμ.tl hi) (day2_c h hwf) s.1 _ (by rw [s.2.1]; exact Nat.le_refl _)
theorem daysS_c {ρ ν : Nat → Int32} (h : ecv ρ ν) (hwf : WF ρ) : ∀ n, ecv (daysS n ρ) (daysS n ν)
  | 0 => h
  | n + 1 => endS_c (day3_c (daysS_c h hwf n) (days_ok hwf n).1)
theorem ecv_rf {ρ : Nat → Int32} : ecv ρ ρ := ⟨fun _ _ => rfl, fun _ _ _ _ => rfl, fun _ _ _ _ _ => rfl, fun _ _ _ _ => Iff.rfl⟩
/-- what one gets hangs on the cares for the things that are there -/
theorem gotS_c {ρ : Nat → Int32} (hwf : WF ρ) {w : Nat} (hw : w < nW ρ) {c d : Int32} (h : ∀ t, t < nT ρ → (care c t ↔ care d t)) (n : Nat) : gotS ρ w 3 c n = gotS ρ w 3 d n := by
  have h1 := ecv_cr (ecv_rf (ρ := ρ)) hwf.tl (w := w) h
  have w1 : WF (upd ρ (44 + 6 * w + 3) c) := WF_free hwf (by omega)
  have h2 := daysS_c h1 w1 n
  refine h2.2.2.1 w 4 (dW w1 (by rw [nW_up (by omega)]; exact hw) n) (by omega) (by omega)
