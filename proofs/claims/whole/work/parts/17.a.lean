def c80 (f g : Nat → Int32) (n : Nat) : Nat → Int32 := fun p => if p < n then f p else g p
theorem c80_0 {f g : Nat → Int32} : g = c80 f g 0 := by
  funext p
  unfold c80
  rw [if_neg (Nat.not_lt_zero p)]
theorem c80_s {f g : Nat → Int32} {i : Nat} : upd (c80 f g i) i (f i) = c80 f g (i + 1) := by
  funext p
  unfold c80 upd
  by_cases h : p = i
  · subst h
    rw [if_pos rfl, if_pos (Nat.lt_succ_self p)]
  · rw [if_neg h]
    show (if p < i then f p else g p) = _
    by_cases q : p < i
    · rw [if_pos q, if_pos (by omega)]
    · rw [if_neg q, if_neg (by omega)]
def eq80 (τ ν : Nat → Int32) : Prop := ∀ p, p < 80 → τ p = ν p
theorem eq80.rf {ν : Nat → Int32} : eq80 ν ν := fun _ _ => rfl
theorem eq80.tr {τ ν μ : Nat → Int32} (h : eq80 τ ν) (g : eq80 ν μ) : eq80 τ μ := fun p hp => (h p hp).trans (g p hp)
theorem eq80.sy {τ ν : Nat → Int32} (h : eq80 τ ν) : eq80 ν τ := fun p hp => (h p hp).symm
theorem eq80_c {f g : Nat → Int32} : eq80 (c80 f g 80) f := fun p hp => by unfold c80; rw [if_pos hp]
theorem eq80.up {τ ν : Nat → Int32} (h : eq80 τ ν) (p : Nat) (v : Int32) : eq80 (upd τ p v) (upd ν p v) := fun q hq => by
  unfold upd
  by_cases z : q = p
  · rw [if_pos z, if_pos z]
  · rw [if_neg z, if_neg z]; exact h q hq
theorem eq80.eqv {τ ν : Nat → Int32} (h : eq80 τ ν) (hwf : WF ν) : eqv τ ν := by
  have e1 : nT τ = nT ν := by unfold nT; rw [h 1 (by omega)]
  have e3 : nW τ = nW ν := by unfold nW; rw [h 3 (by omega)]
  have := hwf.tl
  have := hwf.wl
  exact ⟨fun p hp => h p (by omega), fun t f ht hf => h _ (by omega), fun w f hw hf => h _ (by omega)⟩
theorem eq80.wf {τ ν : Nat → Int32} (h : eq80 τ ν) (hwf : WF ν) : WF τ := WF_e (h.eqv hwf) hwf
theorem eq80_st {τ μ ν : Nat → Int32} {a0 : Nat} {x : Int32} (h : eq80 τ (upd μ a0 x)) (g : ∀ v, eq80 (upd μ a0 v) (upd ν a0 v)) : ∀ v, eq80 (upd τ a0 v) (upd ν a0 v) := fun v => by
  have := h.up a0 v
  rw [upd_upd] at this
  exact this.tr (g v)
theorem upd_self {ν : Nat → Int32} {a0 : Nat} : upd ν a0 (ν a0) = ν := by
  funext p
  unfold upd
  by_cases h : p = a0
  · rw [if_pos h, h]
  · rw [if_neg h]
def bhG (S : QM) (ν : Nat → Int32) : QM → Prop := fun u => ∃ τ α, eq80 τ ν ∧ u = qr (qr S 18 α) 16 τ
theorem qr_3 {S : QM} {a b c : Nat → Int32} : qr (qr (qr S 18 a) 16 b) 19 c = qr (qr (qr S 19 c) 18 a) 16 b := by
  rw [qr_sw (i := 16) (j := 19) (by omega), qr_sw (i := 18) (j := 19) (by omega)]
theorem nI_dec {j : Nat} (h : 1 ≤ j) : nI j + Int32.ofInt (-1) = nI (j - 1) := by
  rw [← pk_sub (a := j) (b := 1) h, show Int32.ofInt (-1) = -nI 1 from by decide, Int32.sub_eq_add_neg]
theorem nI_decx {j : Nat} : nI j + Int32.ofInt (-1) = nI j - nI 1 := by
  rw [show Int32.ofInt (-1) = -nI 1 from by decide, Int32.sub_eq_add_neg]
theorem daysW {μ ν : Nat → Int32} (h : eq80 μ ν) (hwf : WF ν) {w f n : Nat} (hw : w < nW ν) (hf : f < 6) : daysS n μ (44 + 6 * w + f) = daysS n ν (44 + 6 * w + f) := by
  have e := h.eqv hwf
  have hm := h.wf hwf
  exact (daysS_e e hm n).wp (show w < nW _ from dW hm (by rw [e.nW]; exact hw) n) f hf
theorem daysT {μ ν : Nat → Int32} (h : eq80 μ ν) (hwf : WF ν) {t f n : Nat} (ht : t < nT ν) (hf : f < 3) : daysS n μ (20 + 3 * t + f) = daysS n ν (20 + 3 * t + f) := by
  have e := h.eqv hwf
  have hm := h.wf hwf
  exact (daysS_e e hm n).tp (show t < nT _ from dT hm (by rw [e.nT]; exact ht) n) f hf
theorem gotW {μ ν : Nat → Int32} {w f : Nat} {v : Int32} (hv : WF (upd ν (44 + 6 * w + f) v)) (hw : w < nW ν) (n : Nat) (h : eq80 μ (upd ν (44 + 6 * w + f) v)) : daysS n μ (44 + 6 * w + 4) = gotS ν w f v n :=
  daysW h hv (by rw [nW_up (by omega)]; exact hw) (by omega)
theorem metT {μ ν : Nat → Int32} {t : Nat} {v : Int32} (hv : WF (upd ν (20 + 3 * t) v)) (ht : t < nT ν) (n : Nat) (h : eq80 μ (upd ν (20 + 3 * t) v)) : daysS n μ (20 + 3 * t + 2) = metS ν t v n :=
  daysT h hv (by rw [nT_up (by omega)]; exact ht) (by omega)
