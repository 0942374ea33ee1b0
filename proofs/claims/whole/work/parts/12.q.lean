def lst (P : Nat → Prop) [DecidablePred P] : Nat → Nat → Nat
  | 0, i => i
  | n + 1, i => if P i then i else lst P n (i + 1)
theorem lst_le {P : Nat → Prop} [DecidablePred P] : ∀ n i, i ≤ lst P n i ∧ lst P n i ≤ i + n
  | 0, i => ⟨Nat.le_refl _, Nat.le_refl _⟩
  | n + 1, i => by
    unfold lst
    by_cases h : P i
    · rw [if_pos h]; omega
    · rw [if_neg h]
      have := lst_le (P := P) n (i + 1)
      omega
theorem lst_c {P Q : Nat → Prop} [DecidablePred P] [DecidablePred Q] : ∀ n i, (∀ j, i ≤ j → j < i + n → (P j ↔ Q j)) → lst P n i = lst Q n i
  | 0, _, _ => rfl
  | n + 1, i, h => by
    unfold lst
    rw [lst_c n (i + 1) (fun j h1 h2 => h j (by omega) (by omega))]
    by_cases hp : P i
    · rw [if_pos hp, if_pos ((h i (by omega) (by omega)).mp hp)]
    · rw [if_neg hp, if_neg (fun z => hp ((h i (by omega) (by omega)).mpr z))]
def gotS (ρ : Nat → Int32) (w f : Nat) (v : Int32) (n : Nat) : Int32 := daysS n (upd ρ (44 + 6 * w + f) v) (44 + 6 * w + 4)
theorem gotS_e {ρ μ : Nat → Int32} {w f : Nat} {v : Int32} (h : eqv μ ρ) (hwf : WF (upd ρ (44 + 6 * w + f) v)) (hw : w < nW ρ) (n : Nat) : daysS n (upd μ (44 + 6 * w + f) v) (44 + 6 * w + 4) = gotS ρ w f v n := by
  have h1 := h.up (p := 44 + 6 * w + f) v (by omega) (by omega)
  have h2 := daysS_e h1 (WF_e h1 hwf) n
  refine h2.wp ?_ 4 (by omega)
  have h3 := (days_ok (WF_e h1 hwf) n).2.2
  show w < nW (daysS n (upd μ (44 + 6 * w + f) v))
  rw [show nW (daysS n (upd μ (44 + 6 * w + f) v)) = _ from h3, nW_up (by omega), h.nW]
  exact hw
def metS (ρ : Nat → Int32) (t : Nat) (v : Int32) (n : Nat) : Int32 := daysS n (upd ρ (20 + 3 * t) v) (20 + 3 * t + 2)
theorem metS_e {ρ μ : Nat → Int32} {t : Nat} {v : Int32} (h : eqv μ ρ) (hwf : WF (upd ρ (20 + 3 * t) v)) (ht : t < nT ρ) (n : Nat) : daysS n (upd μ (20 + 3 * t) v) (20 + 3 * t + 2) = metS ρ t v n := by
  have h1 := h.up (p := 20 + 3 * t) v (by omega) (by omega)
  have h2 := daysS_e h1 (WF_e h1 hwf) n
  refine h2.tp ?_ 2 (by omega)
  have h3 := (days_ok (WF_e h1 hwf) n).2.1
  show t < nT (daysS n (upd μ (20 + 3 * t) v))
  rw [show nT (daysS n (upd μ (20 + 3 * t) v)) = _ from h3, nT_up (by omega), h.nT]
  exact ht
/-- the first of the most -/
def bst (g : Nat → Int32) : Nat → Nat × Int32
  | 0 => (0, (-1))
  | n + 1 => if (bst g n).2 < g n then (n, g n) else bst g n
theorem bst_le {g : Nat → Int32} : ∀ n, (bst g n).1 ≤ n
  | 0 => Nat.le_refl _
  | n + 1 => by
    unfold bst
    by_cases h : (bst g n).2 < g n
    · rw [if_pos h]; exact Nat.le_succ n
    · rw [if_neg h]; exact Nat.le_trans (bst_le n) (Nat.le_succ n)
theorem bst_c {g f : Nat → Int32} : ∀ n, (∀ i, i < n → g i = f i) → bst g n = bst f n
  | 0, _ => rfl
  | n + 1, h => by
    unfold bst
    rw [bst_c n (fun i hi => h i (by omega)), h n (by omega)]
theorem dW {ρ : Nat → Int32} (h : WF ρ) {w : Nat} (hw : w < nW ρ) (n : Nat) : w < nW (daysS n ρ) := by rw [show nW (daysS n ρ) = _ from (days_ok h n).2.2]; exact hw
theorem dT {ρ : Nat → Int32} (h : WF ρ) {t : Nat} (ht : t < nT ρ) (n : Nat) : t < nT (daysS n ρ) := by rw [show nT (daysS n ρ) = _ from (days_ok h n).2.1]; exact ht
theorem dF {ρ : Nat → Int32} (h : WF ρ) (n : Nat) : WF (daysS n ρ) := (days_ok h n).1
