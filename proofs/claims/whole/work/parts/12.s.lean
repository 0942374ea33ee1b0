abbrev isLt (x : Int32) : Prop := nI 97 ≤ x ∧ x ≤ nI 122
abbrev isDg (x : Int32) : Prop := nI 48 ≤ x ∧ x ≤ nI 57
theorem lst_no {P : Nat → Prop} [DecidablePred P] : ∀ n i, lst P n i < i + n → P (lst P n i)
  | 0, i, h => by unfold lst at h; omega
  | n + 1, i, h => by
    unfold lst at h ⊢
    by_cases c : P i
    · rw [if_pos c]; exact c
    · rw [if_neg c] at h ⊢
      exact lst_no n (i + 1) (by omega)
theorem lst_yes {P : Nat → Prop} [DecidablePred P] : ∀ n i j, i ≤ j → j < lst P n i → ¬ P j
  | 0, i, j, h1, h2 => by unfold lst at h2; omega
  | n + 1, i, j, h1, h2 => by
    unfold lst at h2
    by_cases c : P i
    · rw [if_pos c] at h2; omega
    · rw [if_neg c] at h2
      by_cases e : j = i
      · subst e; exact c
      · exact lst_yes n (i + 1) j (by omega) h2
/-- one step of a search that ends at len -/
theorem lst_t {P : Nat → Prop} [DecidablePred P] {len i : Nat} (h : i < len) (c : ¬ P i) : lst P (len - i) i = lst P (len - (i + 1)) (i + 1) := by
  rw [show len - i = (len - (i + 1)) + 1 by omega, lst, if_neg c]
theorem lst_f {P : Nat → Prop} [DecidablePred P] {len i : Nat} (c : i < len → P i) : lst P (len - i) i = i := by
  by_cases h : i < len
  · rw [show len - i = (len - (i + 1)) + 1 by omega, lst, if_pos (c h)]
  · rw [show len - i = 0 by omega, lst]
theorem lst_ln {P : Nat → Prop} [DecidablePred P] {len i : Nat} (h : i ≤ len) : i ≤ lst P (len - i) i ∧ lst P (len - i) i ≤ len := by
  have := lst_le (P := P) (len - i) i
  omega
/-! tokens: the one that is read from place n on -/
def tS (σ : Nat → Int32) (len n : Nat) : Nat := lst (fun i => ¬ σ i = nI 32) (len - n) n
def eL (σ : Nat → Int32) (len n : Nat) : Nat := lst (fun i => ¬ isLt (σ i)) (len - n) n
def eD (σ : Nat → Int32) (len n : Nat) : Nat := lst (fun i => ¬ isDg (σ i)) (len - n) n
def nmS (σ : Nat → Int32) (s : Nat) : Nat → Int32
  | 0 => nI 0
  | k + 1 => imn (nI 10 * nmS σ s k + σ (s + k) - nI 48) (nI 1000)
def tK (σ : Nat → Int32) (len n : Nat) : Nat := if ¬ tS σ len n < len then 0 else if isLt (σ (tS σ len n)) then 1 else if isDg (σ (tS σ len n)) then 2 else if σ (tS σ len n) = nI 59 then 3 else 4
def tN (σ : Nat → Int32) (len n : Nat) : Nat := if ¬ tS σ len n < len then tS σ len n else if isLt (σ (tS σ len n)) then eL σ len (tS σ len n) else if isDg (σ (tS σ len n)) then eD σ len (tS σ len n) else tS σ len n + 1
def tV (σ : Nat → Int32) (len n : Nat) : Int32 := if ¬ tS σ len n < len then nI 0 else if isLt (σ (tS σ len n)) then nI 0 else if isDg (σ (tS σ len n)) then nmS σ (tS σ len n) (eD σ len (tS σ len n) - tS σ len n) else nI 0
theorem tS_le {σ : Nat → Int32} {len n : Nat} (h : n ≤ len) : n ≤ tS σ len n ∧ tS σ len n ≤ len := lst_ln h
theorem eL_le {σ : Nat → Int32} {len n : Nat} (h : n ≤ len) : n ≤ eL σ len n ∧ eL σ len n ≤ len := lst_ln h
theorem eD_le {σ : Nat → Int32} {len n : Nat} (h : n ≤ len) : n ≤ eD σ len n ∧ eD σ len n ≤ len := lst_ln h
theorem tN_le {σ : Nat → Int32} {len n : Nat} (h : n ≤ len) : tS σ len n ≤ tN σ len n ∧ tN σ len n ≤ len := by
  have h1 := tS_le (σ := σ) h
  have h2 := eL_le (σ := σ) h1.2
  have h3 := eD_le (σ := σ) h1.2
  unfold tN
  split
  · omega
  · split
    · omega
    · split <;> omega
theorem tN_up {σ : Nat → Int32} {len n : Nat} (h : n ≤ len) (hk : ¬ tK σ len n = 0) : tS σ len n < tN σ len n := by
  have h1 := tS_le (σ := σ) h
  unfold tK at hk
  unfold tN
  by_cases c : ¬ tS σ len n < len
  · rw [if_pos c] at hk; exact absurd rfl hk
  · have c : tS σ len n < len := by omega
    rw [if_neg (fun z => z c)]
    by_cases c1 : isLt (σ (tS σ len n))
    · rw [if_pos c1]
      have := lst_t (P := fun i => ¬ isLt (σ i)) c (fun z => z c1)
      have h2 := eL_le (σ := σ) (show tS σ len n + 1 ≤ len from c)
      show tS σ len n < lst (fun i => ¬ isLt (σ i)) (len - tS σ len n) (tS σ len n)
      rw [this]
      exact h2.1
    · rw [if_neg c1]
      by_cases c2 : isDg (σ (tS σ len n))
      · rw [if_pos c2]
        have := lst_t (P := fun i => ¬ isDg (σ i)) c (fun z => z c2)
        have h2 := eD_le (σ := σ) (show tS σ len n + 1 ≤ len from c)
        show tS σ len n < lst (fun i => ¬ isDg (σ i)) (len - tS σ len n) (tS σ len n)
        rw [this]
        exact h2.1
      · rw [if_neg c2]; omega
theorem tN_n {σ : Nat → Int32} {len n : Nat} (h : n ≤ len) : n ≤ tN σ len n ∧ tN σ len n ≤ len := ⟨Nat.le_trans (tS_le h).1 (tN_le h).1, (tN_le h).2⟩
def tkOK (σ : Nat → Int32) (len n : Nat) (τ : Nat → Int32) : Prop := τ 1 = nI len ∧ τ 2 = nI (tN σ len n) ∧ τ 3 = nI (tK σ len n) ∧ τ 4 = nI (tS σ len n) ∧ τ 5 = tV σ len n
abbrev wrd (σ : Nat → Int32) (len n i : Nat) : Prop := tK σ len n = 1 ∧ tN σ len n - tS σ len n = strL.getD i 0 ∧ ∀ j, j < strL.getD i 0 → σ (tS σ len n + j) = (strB.getD i []).getD j 0
abbrev num (σ : Nat → Int32) (len n lo hi : Nat) : Prop := tK σ len n = 2 ∧ inR lo hi (tV σ len n)
/-! reading: whether it is well told, the last token's place, the row -/
abbrev QR : Type := Prop × (Nat × (Nat → Int32))
section RD
variable (σ : Nat → Int32) (len : Nat)
def rPer (i p lo hi : Nat) (n : Nat) (ρ : Nat → Int32) : Bool × (Nat × (Nat → Int32)) :=
  if ¬ wrd σ len n i then (true, (n, ρ)) else if ¬ num σ len (tN σ len n) lo hi then (false, (tN σ len n, ρ)) else (true, (tN σ len (tN σ len n), upd ρ p (tV σ len (tN σ len n))))
def rThi (k : Nat) (n : Nat) (ρ : Nat → Int32) : Bool × (Nat × (Nat → Int32)) :=
  if ¬ nT ρ < 8 then (false, (n, ρ)) else if ¬ num σ len (tN σ len n) 0 15 then (false, (tN σ len n, ρ)) else (true, (tN σ len (tN σ len n), addT ρ (nI k) (tV σ len (tN σ len n))))
def rWal (n : Nat) (ρ : Nat → Int32) : Bool × (Nat × (Nat → Int32)) :=
  if ¬ nW ρ < 6 then (false, (n, ρ)) else if ¬ num σ len (tN σ len n) 0 15 then (false, (tN σ len n, ρ)) else if ¬ num σ len (tN σ len (tN σ len n)) 0 7 then (false, (tN σ len (tN σ len n), ρ)) else
  if (rPer σ len 8 (44 + 6 * nW ρ + 2) 1 5 (tN σ len (tN σ len (tN σ len n))) (addW ρ (tV σ len (tN σ len n)) (tV σ len (tN σ len (tN σ len n))))).1 = true then
    rPer σ len 9 (44 + 6 * nW ρ + 3) 0 255 (rPer σ len 8 (44 + 6 * nW ρ + 2) 1 5 (tN σ len (tN σ len (tN σ len n))) (addW ρ (tV σ len (tN σ len n)) (tV σ len (tN σ len (tN σ len n))))).2.1 (rPer σ len 8 (44 + 6 * nW ρ + 2) 1 5 (tN σ len (tN σ len (tN σ len n))) (addW ρ (tV σ len (tN σ len n)) (tV σ len (tN σ len (tN σ len n))))).2.2
  else rPer σ len 8 (44 + 6 * nW ρ + 2) 1 5 (tN σ len (tN σ len (tN σ len n))) (addW ρ (tV σ len (tN σ len n)) (tV σ len (tN σ len (tN σ len n))))
def rTur (n : Nat) (ρ : Nat → Int32) : Bool × (Nat × (Nat → Int32)) :=
  if ¬ num σ len (tN σ len n) 0 5 then (false, (tN σ len n, ρ)) else if ¬ num σ len (tN σ len (tN σ len n)) 0 5 then (false, (tN σ len (tN σ len n), ρ)) else if ¬ num σ len (tN σ len (tN σ len (tN σ len n))) 0 7 then (false, (tN σ len (tN σ len (tN σ len n)), ρ)) else
  (true, (tN σ len (tN σ len (tN σ len (tN σ len n))), upd ρ (4 + (tV σ len (tN σ len n)).toNatClampNeg) (nI 10 * tV σ len (tN σ len (tN σ len n)) + tV σ len (tN σ len (tN σ len (tN σ len n))))))
def kwd (n : Nat) : Option Nat := if wrd σ len n 0 then some 0 else if wrd σ len n 1 then some 1 else if wrd σ len n 2 then some 2 else if wrd σ len n 3 then some 3 else if wrd σ len n 4 then some 4 else if wrd σ len n 5 then some 5 else if wrd σ len n 6 then some 6 else none
def rItm (n : Nat) (ρ : Nat → Int32) : Bool × (Nat × (Nat → Int32)) :=
  if wrd σ len n 7 then rWal σ len n ρ else if wrd σ len n 10 then rTur σ len n ρ else match kwd σ len n with
  | some k => rThi σ len k n ρ
  | none => (false, (n, ρ))
/-- fuel, items before, place of the item's first token, row: what text answers, and the row -/
def rAll : Nat → Nat → Nat → (Nat → Int32) → Int32 × (Nat → Int32)
  | 0, _, n, ρ => ((-1) - nI (tS σ len n), ρ)
  | f + 1, k, n, ρ =>
    if (rItm σ len n ρ).1 = false then ((-1) - nI (tS σ len (rItm σ len n ρ).2.1), (rItm σ len n ρ).2.2)
    else if tK σ len (rItm σ len n ρ).2.1 = 0 then (nI (k + 1), (rItm σ len n ρ).2.2)
    else if ¬ tK σ len (rItm σ len n ρ).2.1 = 3 then ((-1) - nI (tS σ len (rItm σ len n ρ).2.1), (rItm σ len n ρ).2.2)
    else rAll f (k + 1) (tN σ len (rItm σ len n ρ).2.1) (rItm σ len n ρ).2.2
end RD
