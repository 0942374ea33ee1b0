/-! what does not tell two equal commons apart -/
theorem fo_cg {α : Type} {f g : Nat → α → α} {s : α} : ∀ n, (∀ i a, i < n → f i a = g i a) → fo f n s = fo g n s
  | 0, _ => rfl
  | n + 1, h => by
    rw [fo_succ, fo_succ, fo_cg n (fun i a hi => h i a (by omega)), h n _ (by omega)]
theorem sumS_e {ρ ν : Nat → Int32} (h : eqv ρ ν) {f : Nat} (hf : f < 6) : sumS ρ f = sumS ν f := by
  unfold sumS
  rw [← h.nW]
  exact fo_cg _ (fun i a hi => by rw [h.2.2 i f hi hf])
theorem setS_c {P Q : Nat → Prop} [DecidablePred P] [DecidablePred Q] {n m : Nat} (hn : n = m) (h : ∀ i, i < n → (P i ↔ Q i)) : setS P n = setS Q m := by
  subst hn
  unfold setS
  refine fo_cg _ (fun i a hi => ?_)
  by_cases c : P i
  · rw [if_pos c, if_pos ((h i hi).mp c)]
  · rw [if_neg c, if_neg (fun z => c ((h i hi).mpr z))]
theorem seeS_e {ρ ν : Nat → Int32} (h : eqv ρ ν) {w : Nat} (hw : w < nW ρ) : seeS ρ w = seeS ν w := setS_c h.nT (fun t ht => see_e h hw ht)
theorem snbS_e {ρ ν : Nat → Int32} (h : eqv ρ ν) {t : Nat} (ht : t < nT ρ) : snbS ρ t = snbS ν t := setS_c h.nW (fun w hw => see_e h hw ht)
theorem gdd_e {ρ ν : Nat → Int32} (h : eqv ρ ν) (hwf : WF ρ) {w : Nat} (hw : w < nW ρ) : gdd ρ w ↔ gdd ν w := by
  have e : ρ (44 + 6 * w + 1) = ν (44 + 6 * w + 1) := h.2.2 w 1 hw (by omega)
  unfold gdd
  rw [e]
  by_cases c : isT ρ (ν (44 + 6 * w + 1))
  · obtain ⟨t, ht, et⟩ := isT_n hwf c
    have h8 := hwf.tl
    have ec : (ν (44 + 6 * w + 1)).toNatClampNeg = t := by rw [et, nI_clamp (by omega)]
    rw [ec]
    exact ⟨fun z => ⟨(isT_e h).mp z.1, (fnd_e h hw ht).mp z.2⟩, fun z => ⟨(isT_e h).mpr z.1, (fnd_e h hw ht).mpr z.2⟩⟩
  · exact ⟨fun z => absurd z.1 c, fun z => absurd ((isT_e h).mpr z.1) c⟩
theorem gdds_e {ρ ν : Nat → Int32} (h : eqv ρ ν) (hwf : WF ρ) : setS (gdd ρ) (nW ρ) = setS (gdd ν) (nW ν) := setS_c h.nW (fun w hw => gdd_e h hwf hw)
theorem carS_e {ρ ν : Nat → Int32} (h : eqv ρ ν) : carS ρ = carS ν := by
  unfold carS
  rw [← h.nW, h.1 1 (by omega), fo_cg (nW ρ) (fun i a hi => by rw [h.2.2 i 3 hi (by omega)])]
theorem wcsS_e {ρ ν : Nat → Int32} (h : eqv ρ ν) : wcsS ρ = wcsS ν := by
  unfold wcsS
  rw [← h.nW]
  refine fo_cg _ (fun i a hi => ?_)
  have e := h.2.2 i 0 hi (by omega)
  rw [Nat.add_zero] at e
  rw [e]
theorem tcsS_e {ρ ν : Nat → Int32} (h : eqv ρ ν) : tcsS ρ = tcsS ν := by
  unfold tcsS
  rw [← h.nT]
  exact fo_cg _ (fun i a hi => by rw [h.2.1 i 1 hi (by omega)])
theorem hldS_e {ρ ν : Nat → Int32} (h : eqv ρ ν) : hldS ρ = hldS ν := by
  unfold hldS
  exact fo_cg _ (fun i a hi => by rw [h.1 (10 + i) (by omega)])
theorem unsS_e {ρ ν : Nat → Int32} (h : eqv ρ ν) : unsS ρ = unsS ν := setS_c h.nT (fun t ht => by rw [snbS_e h ht])
theorem cntS_e {ρ ν : Nat → Int32} (h : eqv ρ ν) {w t n : Nat} (hw : w < nW ρ) (ht : t < nT ρ) : cntS ρ w t n = cntS ν w t n := by
  unfold cntS
  refine fo_cg _ (fun i a hi => ?_)
  have h1 := h.up (p := 44 + 6 * w) (nI i) (by omega) (by omega)
  have h2 := see_e (w := w) (t := t) h1 (by rw [nW_up (by omega)]; exact hw) (by rw [nT_up (by omega)]; exact ht)
  by_cases c : see (upd ρ (44 + 6 * w) (nI i)) w t
  · rw [if_pos c, if_pos (h2.mp c)]
  · rw [if_neg c, if_neg (fun z => c (h2.mpr z))]
theorem mrnS_e {ρ ν : Nat → Int32} (h : eqv ρ ν) (hwf : WF ρ) : eqv (mrnS ρ) (mrnS ν) := by
  have e2 : ν 2 = ρ 2 := (h.1 2 (by omega)).symm
  unfold mrnS
  rw [e2, ← h.nD]
  refine dayS_e ?_ (mrn_wf hwf)
  exact ((h.up _ (by omega) (by omega)).up _ (by omega) (by omega)).up _ (by omega) (by omega)
theorem mrns_e {ρ ν : Nat → Int32} (h : eqv ρ ν) (hwf : WF ρ) : ∀ n, eqv (fo (fun _ => mrnS) n ρ) (fo (fun _ => mrnS) n ν)
  | 0 => h
  | n + 1 => mrnS_e (mrns_e h hwf n) (mrns_ok hwf n)
theorem ite_t {c : Prop} [Decidable c] {a x y : Int32} (h : ¬ c → x = y) : (if c then a else x) = (if c then a else y) := by
  by_cases z : c
  · rw [if_pos z, if_pos z]
  · rw [if_neg z, if_neg z]; exact h z
theorem addT_e {ρ ν : Nat → Int32} (h : eqv ρ ν) (hwf : WF ρ) (hf : nT ρ < 8) (k c : Int32) : eqv (addT ρ k c) (addT ν k c) := by
  have e := addT_n (kd := k) (cl := c) hwf hf
  refine ⟨fun p hp => ?_, fun t f ht hff => ?_, fun w f hw hff => ?_⟩
  · rw [addT_at, addT_at, ← h.nT]
    exact ite_t (fun z1 => ite_t (fun z2 => ite_t (fun z3 => ite_t (fun z4 => h.1 p hp))))
  · rw [e.1] at ht
    rw [addT_at, addT_at, ← h.nT]
    exact ite_t (fun z1 => ite_t (fun z2 => ite_t (fun z3 => ite_t (fun z4 => h.2.1 t f (by omega) hff))))
  · rw [e.2.1] at hw
    rw [addT_at, addT_at, ← h.nT]
    exact ite_t (fun z1 => ite_t (fun z2 => ite_t (fun z3 => ite_t (fun z4 => h.2.2 w f hw hff))))
theorem addW_e {ρ ν : Nat → Int32} (h : eqv ρ ν) (hwf : WF ρ) (hf : nW ρ < 6) (c a : Int32) : eqv (addW ρ c a) (addW ν c a) := by
  have e := addW_n (cl := c) (am := a) hwf hf
  refine ⟨fun p hp => ?_, fun t f ht hff => ?_, fun w f hw hff => ?_⟩
  · rw [addW_at, addW_at, ← h.nW]
    exact ite_t (fun z1 => ite_t (fun z2 => ite_t (fun z3 => ite_t (fun z4 => ite_t (fun z5 => ite_t (fun z6 => ite_t (fun z7 => h.1 p hp)))))))
  · rw [e.2.1] at ht
    rw [addW_at, addW_at, ← h.nW]
    exact ite_t (fun z1 => ite_t (fun z2 => ite_t (fun z3 => ite_t (fun z4 => ite_t (fun z5 => ite_t (fun z6 => ite_t (fun z7 => h.2.1 t f ht hff)))))))
  · rw [e.1] at hw
    rw [addW_at, addW_at, ← h.nW]
    exact ite_t (fun z1 => ite_t (fun z2 => ite_t (fun z3 => ite_t (fun z4 => ite_t (fun z5 => ite_t (fun z6 => ite_t (fun z7 => h.2.2 w f (by omega) hff)))))))
theorem ldN_e {ρ ν σ κ : Nat → Int32} (h : eqv ρ ν) {sz : Nat} (hs : ∀ k, k < 40 → σ k = κ k) : ldN ρ σ sz = ldN ν κ sz := by
  unfold ldN
  refine @lst_c (ldP ρ σ sz) (ldP ν κ sz) (fun i => inferInstanceAs (Decidable (¬ ((i < sz ∧ i < nW ρ) ∧ inR 0 255 (σ i))))) (fun i => inferInstanceAs (Decidable (¬ ((i < sz ∧ i < nW ν) ∧ inR 0 255 (κ i))))) 40 0 (fun j h1 h2 => ?_)
  unfold ldP
  rw [h.nW, hs j (by omega)]
theorem ldR_e {ρ ν σ κ : Nat → Int32} (h : eqv ρ ν) (hs : ∀ k, k < 40 → σ k = κ k) : ∀ n, n ≤ 40 → eqv (ldR σ n ρ) (ldR κ n ν)
  | 0, _ => h
  | n + 1, hn => by
    show eqv (upd (ldR σ n ρ) (44 + 6 * n + 3) (σ n)) (upd (ldR κ n ν) (44 + 6 * n + 3) (κ n))
    rw [hs n (by omega)]
    exact (ldR_e h hs n (by omega)).up _ (by omega) (by omega)
theorem goesS_s {τ σ κ : Nat → Int32} {sz p : Nat} (hsz : sz ≤ 40) (hs : ∀ k, k < 40 → σ k = κ k) : goesS τ sz σ p ↔ goesS τ sz κ p := by
  unfold goesS
  exact ⟨fun z q hq => by rw [← hs q (by omega)]; exact z q hq, fun z q hq => by rw [hs q (by omega)]; exact z q hq⟩
theorem got_e {ρ ν : Nat → Int32} (h : eqv ρ ν) {w f : Nat} {v : Int32} (hwf : WF (upd ν (44 + 6 * w + f) v)) (hw : w < nW ν) (n : Nat) : gotS ρ w f v n = gotS ν w f v n := gotS_e h hwf hw n
theorem met_e {ρ ν : Nat → Int32} (h : eqv ρ ν) {t : Nat} {v : Int32} (hwf : WF (upd ν (20 + 3 * t) v)) (ht : t < nT ν) (n : Nat) : metS ρ t v n = metS ν t v n := metS_e h hwf ht n
theorem dayW {ρ ν : Nat → Int32} (h : eqv ρ ν) (hwf : WF ρ) {w f n : Nat} (hw : w < nW ρ) (hf : f < 6) : daysS n ρ (44 + 6 * w + f) = daysS n ν (44 + 6 * w + f) :=
  (daysS_e h hwf n).2.2 w f (dW hwf hw n) hf
theorem dayW0 {ρ ν : Nat → Int32} (h : eqv ρ ν) (hwf : WF ρ) {w n : Nat} (hw : w < nW ρ) : daysS n ρ (44 + 6 * w) = daysS n ν (44 + 6 * w) := dayW h hwf (f := 0) hw (by omega)
theorem dayT {ρ ν : Nat → Int32} (h : eqv ρ ν) (hwf : WF ρ) {t f n : Nat} (ht : t < nT ρ) (hf : f < 3) : daysS n ρ (20 + 3 * t + f) = daysS n ν (20 + 3 * t + f) :=
  (daysS_e h hwf n).2.1 t f (dT hwf ht n) hf
/-! findings -/
theorem sts_n {φ : Nat → Int32} {k : Nat} {s : Int32} : ∀ n, fo (fun i a => a + fnS φ k i) n s = if k < n then fo (fun i a => a + φ i) n s + nI 1 else fo (fun i a => a + φ i) n s
  | 0 => by rw [if_neg (by omega)]; rfl
  | n + 1 => by
    rw [fo_succ, fo_succ, sts_n n]
    by_cases c : k < n
    · rw [if_pos c, if_pos (by omega)]
      show _ + upd φ k _ n = _
      rw [upN (by omega), Int32.add_assoc, Int32.add_comm (nI 1), ← Int32.add_assoc]
    · rw [if_neg c]
      by_cases e : k = n
      · subst e
        rw [if_pos (by omega)]
        show _ + upd φ k _ k = _
        rw [upd_at, ← Int32.add_assoc]
      · rw [if_neg (by omega)]
        show _ + upd φ k _ n = _
        rw [upN (by omega)]
theorem stsS_f {φ : Nat → Int32} {k : Nat} (hk : k < 7) : stsS (fnS φ k) = stsS φ + nI 1 := by
  unfold stsS
  rw [sts_n, if_pos hk]
theorem fnR_0 {ψ : Nat → Int32} {k : Nat} : fnR ψ k 0 = ψ 0 + nI 1 := by
  show upd (upd ψ (k + 1) (ψ (k + 1) + nI 1)) 0 (upd ψ (k + 1) (ψ (k + 1) + nI 1) 0 + nI 1) 0 = _
  rw [upd_at, upN (by omega)]
theorem fnR_s {ψ φ : Nat → Int32} {k : Nat} (h : ∀ i, i < 7 → ψ (i + 1) = φ i) : ∀ i, i < 7 → fnR ψ k (i + 1) = fnS φ k i := by
  intro i hi
  unfold fnR fnS
  show upd (upd ψ (k + 1) (ψ (k + 1) + nI 1)) 0 _ (i + 1) = _
  rw [upN (by omega)]
  by_cases e : i = k
  · subst e
    rw [upd_at, upd_at, h i hi]
  · rw [upN (by omega), upN e, h i hi]
/-! bytes -/
theorem byt_nn {v : Int32} {q : Nat} : 0 ≤ byt v q := by
  unfold byt
  have h : ∀ x : Int32, 0 ≤ x &&& nI 255 := by
    intro x
    rw [Int32.le_iff_toInt_le]
    have h1 : (x &&& nI 255).toBitVec.toNat ≤ 255 := by
      rw [Int32.toBitVec_and, BitVec.toNat_and]
      exact Nat.and_le_right
    have h2 : (x &&& nI 255).toInt = ((x &&& nI 255).toBitVec.toNat : Int) := BitVec.toInt_eq_toNat_of_lt (by omega)
    rw [h2]
    have h3 : (0 : Int32).toInt = 0 := rfl
    omega
  exact h _
theorem apS_0 {σ : Nat → Int32} {len : Nat} {v : Int32} (h : ∀ i, i < len → 0 ≤ σ i) : ∀ n q i, i < len + n → 0 ≤ apS σ len v n q i
  | 0, q, i, hi => h i (by omega)
  | n + 1, q, i, hi => by
    show 0 ≤ upd (apS σ len v n (q + 1)) (len + n) (byt v q) i
    by_cases e : i = len + n
    · rw [e, upd_at]; exact byt_nn
    · rw [upN e]
      exact apS_0 h n (q + 1) i (by omega)
