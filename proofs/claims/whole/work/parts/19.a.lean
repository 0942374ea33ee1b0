def kR (k : Nat) : Nat := if k = 4 then 3 else k
theorem kR_1 {k : Nat} : kR k = 1 ↔ k = 1 := by unfold kR; split <;> omega
theorem kR_2 {k : Nat} : kR k = 2 ↔ k = 2 := by unfold kR; split <;> omega
theorem kR_0 {k : Nat} : kR k = 0 ↔ k = 0 := by unfold kR; split <;> omega
theorem kR_le {σ : Nat → Int32} {len n : Nat} : kR (tK σ len n) ≤ 3 := by
  have := tK_le (σ := σ) (len := len) (n := n)
  unfold kR
  split <;> omega
def stK (σ : Nat → Int32) (len n : Nat) (kp w : Int32) (m ta wa : Nat) (τ : Nat → Int32) : Prop :=
  τ 3 = kp ∧ τ 6 = nI len ∧ τ 7 = nI (tS σ len n) ∧ τ 8 = nI (tN σ len n) ∧ τ 9 = nI (kR (tK σ len n)) ∧ τ 10 = tV σ len n ∧ τ 11 = w ∧ τ 14 = nI m ∧ τ 15 = nI ta ∧ τ 16 = nI wa
def stP (S : QM) (σ : Nat → Int32) (len n : Nat) (kp w : Int32) (m ta wa : Nat) : QM → Prop := fun u => ∃ τ, stK σ len n kp w m ta wa τ ∧ u = qr S 15 τ
def itm (ι : Nat → Int32) (m : Nat) (x0 x1 x2 x3 x4 : Int32) : Nat → Int32 := upd (upd (upd (upd (upd ι (5 * m) x0) (5 * m + 1) x1) (5 * m + 2) x2) (5 * m + 3) x3) (5 * m + 4) x4
theorem itm_lo {ι : Nat → Int32} {m q : Nat} {x0 x1 x2 x3 x4 : Int32} (h : q < 5 * m) : itm ι m x0 x1 x2 x3 x4 q = ι q := by
  unfold itm
  rw [upN (by omega), upN (by omega), upN (by omega), upN (by omega), upN (by omega)]
theorem itm_0 {ι : Nat → Int32} {m : Nat} {x0 x1 x2 x3 x4 : Int32} : itm ι m x0 x1 x2 x3 x4 (5 * m) = x0 := by
  unfold itm
  rw [upN (by omega), upN (by omega), upN (by omega), upN (by omega), upd_at]
theorem itm_1 {ι : Nat → Int32} {m : Nat} {x0 x1 x2 x3 x4 : Int32} : itm ι m x0 x1 x2 x3 x4 (5 * m + 1) = x1 := by
  unfold itm
  rw [upN (by omega), upN (by omega), upN (by omega), upd_at]
theorem itm_2 {ι : Nat → Int32} {m : Nat} {x0 x1 x2 x3 x4 : Int32} : itm ι m x0 x1 x2 x3 x4 (5 * m + 2) = x2 := by
  unfold itm
  rw [upN (by omega), upN (by omega), upd_at]
theorem itm_3 {ι : Nat → Int32} {m : Nat} {x0 x1 x2 x3 x4 : Int32} : itm ι m x0 x1 x2 x3 x4 (5 * m + 3) = x3 := by
  unfold itm
  rw [upN (by omega), upd_at]
theorem itm_4 {ι : Nat → Int32} {m : Nat} {x0 x1 x2 x3 x4 : Int32} : itm ι m x0 x1 x2 x3 x4 (5 * m + 4) = x4 := by
  unfold itm
  rw [upd_at]
def wkR (ρ : Nat → Int32) (x1 x2 x3 x4 : Int32) : Nat → Int32 := upd (upd (addW ρ x1 x2) (44 + 6 * nW ρ + 2) x3) (44 + 6 * nW ρ + 3) x4
def tnR (ρ : Nat → Int32) (x1 x2 x3 : Int32) : Nat → Int32 := upd ρ (4 + x1.toNatClampNeg) (nI 10 * x2 + x3)
/-- what an item does to the row -/
def apl (ι : Nat → Int32) (m : Nat) (ρ : Nat → Int32) : Nat → Int32 :=
  if ι (5 * m) = nI 10 then wkR ρ (ι (5 * m + 1)) (ι (5 * m + 2)) (ι (5 * m + 3)) (ι (5 * m + 4))
  else if ι (5 * m) = nI 11 then tnR ρ (ι (5 * m + 1)) (ι (5 * m + 2)) (ι (5 * m + 3))
  else addT ρ (ι (5 * m)) (ι (5 * m + 1))
def okI (ι : Nat → Int32) (m : Nat) (ρ : Nat → Int32) : Prop :=
  (ι (5 * m) = nI 10 ∧ nW ρ < 6) ∨ (ι (5 * m) = nI 11 ∧ ∃ i, i ≤ 5 ∧ ι (5 * m + 1) = nI i) ∨ (∃ k, k ≤ 6 ∧ ι (5 * m) = nI k ∧ nT ρ < 8)
theorem apl_c {ι κ : Nat → Int32} {m : Nat} (h : ∀ q, q < 5 * m + 5 → ι q = κ q) (ρ : Nat → Int32) : apl ι m ρ = apl κ m ρ := by
  unfold apl
  rw [h (5 * m) (by omega), h (5 * m + 1) (by omega), h (5 * m + 2) (by omega), h (5 * m + 3) (by omega), h (5 * m + 4) (by omega)]
theorem okI_c {ι κ : Nat → Int32} {m : Nat} (h : ∀ q, q < 5 * m + 5 → ι q = κ q) {ρ : Nat → Int32} (g : okI ι m ρ) : okI κ m ρ := by
  unfold okI at g ⊢
  rw [h (5 * m) (by omega), h (5 * m + 1) (by omega)] at g
  exact g
theorem fo_apl {ι κ : Nat → Int32} {ρ : Nat → Int32} : ∀ m, (∀ q, q < 5 * m → ι q = κ q) → fo (apl ι) m ρ = fo (apl κ) m ρ
  | 0, _ => rfl
  | m + 1, h => by
    rw [fo_succ, fo_succ, fo_apl m (fun q hq => h q (by omega)), apl_c (fun q hq => h q (by omega))]
theorem upd_same {f : Nat → Int32} {p : Nat} {x : Int32} (h : f p = x) : upd f p x = f := by
  subst h
  exact upd_self
/-- behind readItem -/
def itP (S : QM) (σ : Nat → Int32) (len m : Nat) (kp : Int32) (ι ρ : Nat → Int32) (R : Bool × (Nat × (Nat → Int32))) : QM → Prop := fun u => ∃ τ κ ta wa m2, stK σ len R.2.1 kp (if R.1 = true then nI 0 else nI 1) m2 ta wa τ ∧ (R.1 = true → m2 = m + 1 ∧ ta = nT R.2.2 ∧ wa = nW R.2.2 ∧ okI κ m ρ ∧ apl κ m ρ = R.2.2 ∧ ∀ q, q < 5 * m → κ q = ι q) ∧ u = qr (qr S 21 κ) 15 τ
theorem it_thing {ι ρ : Nat → Int32} {m k : Nat} {x : Int32} (hk : k ≤ 6) (hn : nT ρ < 8) {y2 y3 y4 : Int32} : okI (itm ι m (nI k) x y2 y3 y4) m ρ ∧ apl (itm ι m (nI k) x y2 y3 y4) m ρ = addT ρ (nI k) x := by
  refine ⟨Or.inr (Or.inr ⟨k, hk, itm_0, hn⟩), ?_⟩
  unfold apl
  rw [itm_0, if_neg (fun z => by have := (nI_eq (by omega) (by omega)).mp z; omega), if_neg (fun z => by have := (nI_eq (by omega) (by omega)).mp z; omega), itm_1]
theorem it_walk {ι ρ : Nat → Int32} {m : Nat} {x1 x2 x3 x4 : Int32} (hn : nW ρ < 6) : okI (itm ι m (nI 10) x1 x2 x3 x4) m ρ ∧ apl (itm ι m (nI 10) x1 x2 x3 x4) m ρ = wkR ρ x1 x2 x3 x4 := by
  refine ⟨Or.inl ⟨itm_0, hn⟩, ?_⟩
  unfold apl
  rw [itm_0, if_pos rfl, itm_1, itm_2, itm_3, itm_4]
theorem it_turn {ι ρ : Nat → Int32} {m : Nat} {x1 x2 x3 x4 : Int32} (hx : ∃ i, i ≤ 5 ∧ x1 = nI i) : okI (itm ι m (nI 11) x1 x2 x3 x4) m ρ ∧ apl (itm ι m (nI 11) x1 x2 x3 x4) m ρ = tnR ρ x1 x2 x3 := by
  refine ⟨Or.inr (Or.inl ⟨itm_0, by rw [itm_1]; exact hx⟩), ?_⟩
  unfold apl
  rw [itm_0, if_neg (by decide), if_pos rfl, itm_1, itm_2, itm_3]
theorem wk_22 {ρ : Nat → Int32} {x1 x2 : Int32} : wkR ρ x1 x2 (nI 2) (nI 0) = addW ρ x1 x2 := by
  unfold wkR
  rw [upd_same (p := 44 + 6 * nW ρ + 2) (by rw [addW_at, if_neg (by omega), if_neg (by omega), if_neg (by omega), if_neg (by omega), if_pos rfl]), upd_same (by rw [addW_at, if_neg (by omega), if_neg (by omega), if_neg (by omega), if_pos rfl])]
theorem wk_2c {ρ : Nat → Int32} {x1 x2 x4 : Int32} : wkR ρ x1 x2 (nI 2) x4 = upd (addW ρ x1 x2) (44 + 6 * nW ρ + 3) x4 := by
  unfold wkR
  rw [upd_same (p := 44 + 6 * nW ρ + 2) (by rw [addW_at, if_neg (by omega), if_neg (by omega), if_neg (by omega), if_neg (by omega), if_pos rfl])]
theorem wk_p0 {ρ : Nat → Int32} {x1 x2 x3 : Int32} : wkR ρ x1 x2 x3 (nI 0) = upd (addW ρ x1 x2) (44 + 6 * nW ρ + 2) x3 := by
  unfold wkR
  rw [upd_same (p := 44 + 6 * nW ρ + 3) (by rw [upN (by omega), addW_at, if_neg (by omega), if_neg (by omega), if_neg (by omega), if_pos rfl])]
