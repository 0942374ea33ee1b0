def zer (r : Nat → Int32) : Nat → Int32 := fo (fun i μ => upd μ i (nI 0)) 40 r
def cutS (b v : Int32) : Int32 := if b = nI 8 then v.toInt8.toInt32 else if b = nI 16 then v.toInt16.toInt32 else v
abbrev hasS (fr n sz : Int32) : Prop := (¬ fr < 0 ∧ ¬ n < 0) ∧ ¬ sz < n ∧ ¬ sz - n < fr
abbrev goesS (τ : Nat → Int32) (sz : Nat) (σ : Nat → Int32) (p : Nat) : Prop := ∀ q, q < sz → σ q = -1 ∨ σ q = daysS (q + 1) τ p
def ush (x : Int32) (k : Nat) : Int32 := (x.toUInt32 >>> ((nI k).toUInt32 &&& Int32.toUInt32 31)).toInt32
def bc1 (x : Int32) : Int32 := x - (ush x 1 &&& nI 1431655765)
def bc2 (a : Int32) : Int32 := (a &&& nI 858993459) + (ush a 2 &&& nI 858993459)
def bc3 (b : Int32) : Int32 := b + ush b 4 &&& nI 252645135
def bcS (x : Int32) : Int32 := (fun d => d + ush d 16) ((fun c => c + ush c 8) (bc3 (bc2 (bc1 x)))) &&& nI 63
abbrev gvC (g : Int32 → Int32) (before cs : Int32) (j : Nat) (b : Int32) : Prop := (nI j &&& (cs ^^^ (-1)) = 0 ∧ (b < 0 ∨ bcS (nI j) < bcS b)) ∧ before < g (cs &&& (nI j ^^^ (-1)))
def gvS (g : Int32 → Int32) (before cs : Int32) (n : Nat) : Int32 := fo (fun j b => if gvC g before cs j b then nI j else b) n (-1)
def cntS (ρ : Nat → Int32) (w t n : Nat) : Nat := fo (fun k q => if see (upd ρ (44 + 6 * w) (nI k)) w t then q + 1 else q) n 0
def red : Nat → Nat → Nat → Nat × Nat
  | 0, a, b => (a, b)
  | n + 1, a, b => if 1 < b ∧ a % 2 = 0 then red n (a / 2) (b / 2) else (a, b)
def redF (a b : Nat) : Nat × Nat := red 5 a b
theorem redF_all : ((List.range 17).all fun a => (List.range 17).all fun b => decide (1 < b ∧ a % 2 = 0 → redF a b = redF (a / 2) (b / 2))) = true := by decide +kernel
theorem redF_s {a b : Nat} (ha : a ≤ 16) (hb : b ≤ 16) (h : 1 < b ∧ a % 2 = 0) : redF a b = redF (a / 2) (b / 2) :=
  of_decide_eq_true (List.all_eq_true.mp (List.all_eq_true.mp redF_all a (List.mem_range.mpr (by omega))) b (List.mem_range.mpr (by omega))) h
theorem redF_e {a b : Nat} (h : ¬ (1 < b ∧ a % 2 = 0)) : redF a b = (a, b) := by
  unfold redF red
  rw [if_neg h]
theorem cntS_le {ρ : Nat → Int32} {w t : Nat} : ∀ n, cntS ρ w t n ≤ n
  | 0 => Nat.le_refl _
  | n + 1 => by
    show (if see (upd ρ (44 + 6 * w) (nI n)) w t then cntS ρ w t n + 1 else cntS ρ w t n) ≤ n + 1
    have := cntS_le (ρ := ρ) (w := w) (t := t) n
    by_cases h : see (upd ρ (44 + 6 * w) (nI n)) w t
    · rw [if_pos h]; omega
    · rw [if_neg h]; omega
def pwS (b : Int64) (n : Nat) : Int64 := fo (fun _ x => x * b) n 1
def mrnS (ρ : Nat → Int32) : Nat → Int32 := dayS (upd (upd (upd ρ 2 (nxt (ρ 2))) 2 (nxt (nxt (ρ 2)))) (4 + nD ρ % 6) (nI 10 * (drw (nxt (ρ 2)) - drw (nxt (ρ 2)) / nI 6 * nI 6) + (drw (nxt (nxt (ρ 2))) - drw (nxt (nxt (ρ 2))) / nI 8 * nI 8)))
theorem mrn_wf {ρ : Nat → Int32} {a b v : Int32} (h : WF ρ) : WF (upd (upd (upd ρ 2 a) 2 b) (4 + nD ρ % 6) v) := by
  have h1 : WF (upd ρ 2 a) := WF_free h (by omega)
  have h2 : WF (upd (upd ρ 2 a) 2 b) := WF_free h1 (by omega)
  exact WF_free h2 (by omega)
theorem mrnS_ok {ρ : Nat → Int32} (h : WF ρ) : WF (mrnS ρ) := (dayS_ok (mrn_wf h)).1
theorem mrns_ok {ρ : Nat → Int32} (h : WF ρ) : ∀ n, WF (fo (fun _ => mrnS) n ρ)
  | 0 => h
  | n + 1 => mrnS_ok (mrns_ok h n)
theorem upd_upd {f : Nat → Int32} {k : Nat} {x z : Int32} : upd (upd f k x) k z = upd f k z := by
  funext j
  unfold upd
  by_cases h : j = k
  · rw [if_pos h, if_pos h]
  · rw [if_neg h, if_neg h, if_neg h]
theorem nI_nm {t : Nat} (h : t < 2147483648) : ¬ nI t = -1 := by
  intro e
  have := congrArg Int32.toInt e
  rw [nI_toInt (by omega)] at this
  have h2 : (-1 : Int32).toInt = -1 := by decide
  omega
def byt (v : Int32) (i : Nat) : Int32 := ush v (8 * i) &&& nI 255
def apS (σ : Nat → Int32) (len : Nat) (v : Int32) : Nat → Nat → (Nat → Int32)
  | 0, _ => σ
  | n + 1, q => upd (apS σ len v n (q + 1)) (len + n) (byt v q)
theorem goesS_w {μ ν σ : Nat → Int32} {sz w : Nat} (h : eqv μ ν) (hμ : WF μ) (hw : w < nW μ) : goesS μ sz σ (44 + 6 * w) ↔ goesS ν sz σ (44 + 6 * w) := by
  have e : ∀ q, daysS (q + 1) μ (44 + 6 * w) = daysS (q + 1) ν (44 + 6 * w) := fun q => by
    have := (daysS_e h hμ (q + 1)).wp (show w < nW _ from dW hμ hw (q + 1)) 0 (by omega)
    rw [Nat.add_zero] at this
    exact this
  constructor
  · intro z q hq; rw [← e]; exact z q hq
  · intro z q hq; rw [e]; exact z q hq
theorem goesS_t {μ ν σ : Nat → Int32} {sz t : Nat} (h : eqv μ ν) (hμ : WF μ) (ht : t < nT μ) : goesS μ sz σ (20 + 3 * t + 1) ↔ goesS ν sz σ (20 + 3 * t + 1) := by
  have e : ∀ q, daysS (q + 1) μ (20 + 3 * t + 1) = daysS (q + 1) ν (20 + 3 * t + 1) := fun q => (daysS_e h hμ (q + 1)).tp (show t < nT _ from dT hμ ht (q + 1)) 1 (by omega)
  constructor
  · intro z q hq; rw [← e]; exact z q hq
  · intro z q hq; rw [e]; exact z q hq
def ldP (ρ σ : Nat → Int32) (sz : Nat) (i : Nat) : Prop := ¬ ((i < sz ∧ i < nW ρ) ∧ inR 0 255 (σ i))
def ldN (ρ σ : Nat → Int32) (sz : Nat) : Nat := @lst (ldP ρ σ sz) (fun i => inferInstanceAs (Decidable (¬ ((i < sz ∧ i < nW ρ) ∧ inR 0 255 (σ i))))) 40 0
def ldR (σ : Nat → Int32) : Nat → (Nat → Int32) → (Nat → Int32) := fo (fun i μ => upd μ (44 + 6 * i + 3) (σ i))
theorem ldR_ok {ρ σ : Nat → Int32} (h : WF ρ) : ∀ n, n ≤ 6 → WF (ldR σ n ρ) ∧ nW (ldR σ n ρ) = nW ρ ∧ nT (ldR σ n ρ) = nT ρ
  | 0, _ => ⟨h, rfl, rfl⟩
  | n + 1, hn => by
    have ih := ldR_ok (σ := σ) h n (by omega)
    refine ⟨WF_free ih.1 (by omega), ?_, ?_⟩
    · show nW (upd (ldR σ n ρ) (44 + 6 * n + 3) (σ n)) = _
      rw [nW_up (by omega)]; exact ih.2.1
    · show nT (upd (ldR σ n ρ) (44 + 6 * n + 3) (σ n)) = _
      rw [nT_up (by omega)]; exact ih.2.2
def stsS (φ : Nat → Int32) : Int32 := fo (fun i a => a + φ i) 7 (nI 0)
theorem nI_pos2 {n : Nat} (h : n < 2147483648) : nI 0 ≤ nI n := (nI_leI (by omega) (by omega)).mpr (Nat.zero_le _)
theorem sub1_toInt {z : Nat} (hz : z ≤ 1000) : (nI z - nI 1).toInt = (z : Int) - 1 := pk_sub_toInt (by omega) (by omega)
theorem ile_sub {i z : Nat} (h : i < z) (hz : z ≤ 1000) : nI i ≤ nI z - nI 1 := by
  rw [Int32.le_iff_toInt_le, sub1_toInt hz, nI_toInt (by omega)]
  omega
theorem ile_sub_i {x : Int32} {z : Nat} (hz : z ≤ 1000) (h : nI 0 ≤ x ∧ x ≤ nI z - nI 1) : ∃ i, i < z ∧ x = nI i := by
  obtain ⟨h1, h2⟩ := h
  rw [Int32.le_iff_toInt_le, nI_toInt (by omega)] at h1
  rw [Int32.le_iff_toInt_le, sub1_toInt hz] at h2
  refine ⟨x.toInt.toNat, by omega, ?_⟩
  apply Int32.toInt_inj.mp
  rw [nI_toInt (by omega)]
  omega
theorem has_i {f n sz : Nat} {b : Int32} (hz : sz ≤ 1000) (hb : b = nI sz) (h : f + n ≤ sz) : hasS (nI f) (nI n) b := by
  subst hb
  refine ⟨⟨nI_pos (by omega), nI_pos (by omega)⟩, fun z => ?_, fun z => ?_⟩
  · have := (nI_ltI (by omega) (by omega)).mp z
    omega
  · rw [pk_sub (by omega)] at z
    have := (nI_ltI (by omega) (by omega)).mp z
    omega
theorem has_n {x z b : Int32} {sz : Nat} (hz : sz ≤ 1000) (hb : b = nI sz) (h : hasS x z b) : ∃ f n, f + n ≤ sz ∧ x = nI f ∧ z = nI n := by
  subst hb
  obtain ⟨⟨h1, h2⟩, h3, h4⟩ := h
  obtain ⟨f, hf, rfl⟩ := nI_of h1
  obtain ⟨n, hn, rfl⟩ := nI_of h2
  have h5 : n ≤ sz := Nat.not_lt.mp (fun q => h3 ((nI_ltI (by omega) (by omega)).mpr q))
  rw [pk_sub h5] at h4
  have h6 : f ≤ sz - n := Nat.not_lt.mp (fun q => h4 ((nI_ltI (by omega) (by omega)).mpr q))
  exact ⟨f, n, by omega, rfl, rfl⟩
theorem ile_m1 {n : Nat} (h : n < 2147483648) : (-1 : Int32) ≤ nI n := by
  rw [Int32.le_iff_toInt_le, nI_toInt (by omega)]
  have h2 : (-1 : Int32).toInt = -1 := by decide
  omega
