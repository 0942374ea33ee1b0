theorem zr40_in {j : Nat} {η : Nat → Int32} : ∀ n k, k < n → zr40 j η n (40 * j + k) = nI 0
  | 0, k, h => absurd h (Nat.not_lt_zero _)
  | n + 1, k, h => by
    show upd (zr40 j η n) (40 * j + n) (nI 0) (40 * j + k) = nI 0
    by_cases e : k = n
    · rw [e, upd_at]
    · rw [upN (by omega)]
      exact zr40_in n k (by omega)
theorem zr40_out {j : Nat} {η : Nat → Int32} {p : Nat} : ∀ n, (p < 40 * j ∨ 40 * j + n ≤ p) → zr40 j η n p = η p
  | 0, _ => rfl
  | n + 1, h => by
    show upd (zr40 j η n) (40 * j + n) (nI 0) p = η p
    rw [upN (by omega)]
    exact zr40_out n (by omega)
theorem zer_n {r : Nat → Int32} : ∀ n k, k < n → fo (fun i μ => upd μ i (nI 0)) n r k = nI 0
  | 0, k, h => absurd h (Nat.not_lt_zero _)
  | n + 1, k, h => by
    show upd (fo (fun i μ => upd μ i (nI 0)) n r) n (nI 0) k = nI 0
    by_cases e : k = n
    · rw [e, upd_at]
    · rw [upN e]
      exact zer_n n k (by omega)
theorem zer_at {r : Nat → Int32} {k : Nat} (h : k < 40) : zer r k = nI 0 := zer_n 40 k h
theorem J_sh {S v : QM} (h : qJ S) (e : ∀ r, ¬ (6 ≤ r ∧ r ≤ 13) → ¬ r = 22 → ¬ r = 23 → ¬ r = 24 → ¬ r = 25 → v r = S r) (hs : Js v) : qJ v :=
  ⟨Ja_c h.1 (e 0 (by decide) (by decide) (by decide) (by decide) (by decide)) (e 16 (by decide) (by decide) (by decide) (by decide) (by decide)), Jb_c h.w2 (e 2 (by decide) (by decide) (by decide) (by decide) (by decide)),
   Jk_c h.k (e 1 (by decide) (by decide) (by decide) (by decide) (by decide)) (e 3 (by decide) (by decide) (by decide) (by decide) (by decide)) (e 15 (by decide) (by decide) (by decide) (by decide) (by decide)) (e 17 (by decide) (by decide) (by decide) (by decide) (by decide)),
   Jf_c h.f (e 14 (by decide) (by decide) (by decide) (by decide) (by decide)) (e 19 (by decide) (by decide) (by decide) (by decide) (by decide)),
   Jt_c h.t (e 4 (by decide) (by decide) (by decide) (by decide) (by decide)) (e 5 (by decide) (by decide) (by decide) (by decide) (by decide)) (e 15 (by decide) (by decide) (by decide) (by decide) (by decide)) (e 20 (by decide) (by decide) (by decide) (by decide) (by decide)), hs⟩
/-- a new sheet -/
theorem J_sheet {S : QM} (h : qJ S) {j n : Nat} (hj : j < 4) (hn : n ≤ 40) (b : Int32) :
    qJ (qr (qr (qr (qr (qr S (6 + j) (upd (upd (S (6 + j)) 1 b) 2 (nI n))) (10 + j) (zer (S (10 + j)))) 22 (upd (S 22) j b)) 23 (upd (S 23) j (nI n))) 24 (zr40 j (S 24) 40)) := by
  refine J_sh h (fun r h1 h2 h3 h4 h5 => by rw [qr_ne h4, qr_ne h3, qr_ne h2, qr_ne (by omega), qr_ne (by omega)]) (fun i hi => ?_)
  have e22 : (qr (qr (qr (qr (qr S (6 + j) (upd (upd (S (6 + j)) 1 b) 2 (nI n))) (10 + j) (zer (S (10 + j)))) 22 (upd (S 22) j b)) 23 (upd (S 23) j (nI n))) 24 (zr40 j (S 24) 40)) 22 = upd (S 22) j b := rfl
  have e23 : (qr (qr (qr (qr (qr S (6 + j) (upd (upd (S (6 + j)) 1 b) 2 (nI n))) (10 + j) (zer (S (10 + j)))) 22 (upd (S 22) j b)) 23 (upd (S 23) j (nI n))) 24 (zr40 j (S 24) 40)) 23 = upd (S 23) j (nI n) := rfl
  have e24 : (qr (qr (qr (qr (qr S (6 + j) (upd (upd (S (6 + j)) 1 b) 2 (nI n))) (10 + j) (zer (S (10 + j)))) 22 (upd (S 22) j b)) 23 (upd (S 23) j (nI n))) 24 (zr40 j (S 24) 40)) 24 = zr40 j (S 24) 40 := rfl
  rw [e22, e23, e24]
  by_cases e : i = j
  · subst e
    have e6 : (qr (qr (qr (qr (qr S (6 + i) (upd (upd (S (6 + i)) 1 b) 2 (nI n))) (10 + i) (zer (S (10 + i)))) 22 (upd (S 22) i b)) 23 (upd (S 23) i (nI n))) 24 (zr40 i (S 24) 40)) (6 + i) = upd (upd (S (6 + i)) 1 b) 2 (nI n) := by
      rw [qr_ne (by omega), qr_ne (by omega), qr_ne (by omega), qr_ne (by omega), qr_at]
    have e10 : (qr (qr (qr (qr (qr S (6 + i) (upd (upd (S (6 + i)) 1 b) 2 (nI n))) (10 + i) (zer (S (10 + i)))) 22 (upd (S 22) i b)) 23 (upd (S 23) i (nI n))) 24 (zr40 i (S 24) 40)) (10 + i) = zer (S (10 + i)) := by
      rw [qr_ne (by omega), qr_ne (by omega), qr_ne (by omega), qr_at]
    rw [e6, e10]
    refine ⟨by rw [upd_at, upN (by omega), upd_at], by rw [upd_at, upd_at], ⟨n, hn, upd_at⟩, fun k hk => ?_⟩
    rw [zer_at hk, zr40_in 40 k hk]
  · have e6 : (qr (qr (qr (qr (qr S (6 + j) (upd (upd (S (6 + j)) 1 b) 2 (nI n))) (10 + j) (zer (S (10 + j)))) 22 (upd (S 22) j b)) 23 (upd (S 23) j (nI n))) 24 (zr40 j (S 24) 40)) (6 + i) = S (6 + i) := by
      rw [qr_ne (by omega), qr_ne (by omega), qr_ne (by omega), qr_ne (by omega), qr_ne (by omega)]
    have e10 : (qr (qr (qr (qr (qr S (6 + j) (upd (upd (S (6 + j)) 1 b) 2 (nI n))) (10 + j) (zer (S (10 + j)))) 22 (upd (S 22) j b)) 23 (upd (S 23) j (nI n))) 24 (zr40 j (S 24) 40)) (10 + i) = S (10 + i) := by
      rw [qr_ne (by omega), qr_ne (by omega), qr_ne (by omega), qr_ne (by omega), qr_ne (by omega)]
    rw [e6, e10, upN e, upN e]
    refine ⟨(h.s i hi).1, (h.s i hi).2.1, (h.s i hi).2.2.1, fun k hk => ?_⟩
    rw [zr40_out 40 (by omega)]
    exact (h.s i hi).2.2.2 k hk
/-- rows of numbers change alike -/
theorem J_num {S v : QM} (h : qJ S) {j : Nat} (hj : j < 4) (e : ∀ r, ¬ r = 10 + j → ¬ r = 24 → ¬ r = 25 → v r = S r) (h1 : ∀ k, k < 40 → v (10 + j) k = v 24 (40 * j + k)) (h2 : ∀ p, (p < 40 * j ∨ 40 * j + 40 ≤ p) → v 24 p = S 24 p) : qJ v := by
  refine J_sh h (fun r z1 z2 z3 z4 z5 => e r (by omega) z4 z5) (fun i hi => ?_)
  rw [e 22 (by omega) (by decide) (by decide), e 23 (by omega) (by decide) (by decide), e (6 + i) (by omega) (by omega) (by omega)]
  refine ⟨(h.s i hi).1, (h.s i hi).2.1, (h.s i hi).2.2.1, fun k hk => ?_⟩
  by_cases z : i = j
  · rw [z]; exact h1 k hk
  · rw [e (10 + i) (by omega) (by omega) (by omega), h2 _ (by omega)]
    exact (h.s i hi).2.2.2 k hk
theorem J_write {S : QM} (h : qJ S) {j i : Nat} (hj : j < 4) (hi : i < 40) (c : Int32) : qJ (qr (qr S (10 + j) (upd (S (10 + j)) i c)) 24 (upd (S 24) (40 * j + i) c)) := by
  have e10 : (qr (qr S (10 + j) (upd (S (10 + j)) i c)) 24 (upd (S 24) (40 * j + i) c)) (10 + j) = upd (S (10 + j)) i c := by rw [qr_ne (by omega), qr_at]
  refine J_num h hj (fun r h1 h2 h3 => by rw [qr_ne h2, qr_ne h1]) (fun k hk => ?_) (fun p hp => ?_)
  · rw [e10]
    show upd (S (10 + j)) i c k = upd (S 24) (40 * j + i) c (40 * j + k)
    by_cases z : k = i
    · rw [z, upd_at, upd_at]
    · rw [upN z, upN (by omega)]
      exact (h.s j hj).2.2.2 k hk
  · show upd (S 24) (40 * j + i) c p = S 24 p
    rw [upN (by omega)]
theorem J_copy {S : QM} (h : qJ S) {j i f q n : Nat} (hj : j < 4) (hi : i < 4) (h4 : f + n ≤ 40) (h5 : q + n ≤ 40) (μ : Nat → Int32) : qJ (qr (qr (qr S (10 + i) (cpy (S (10 + j)) f (S (10 + i)) q n)) 25 μ) 24 (cpy (S 24) (40 * j + f) (S 24) (40 * i + q) n)) := by
  have e10 : (qr (qr (qr S (10 + i) (cpy (S (10 + j)) f (S (10 + i)) q n)) 25 μ) 24 (cpy (S 24) (40 * j + f) (S 24) (40 * i + q) n)) (10 + i) = cpy (S (10 + j)) f (S (10 + i)) q n := by rw [qr_ne (by omega), qr_ne (by omega), qr_at]
  refine J_num h hi (fun r h1 h2 h3 => by rw [qr_ne h2, qr_ne h3, qr_ne h1]) (fun k hk => ?_) (fun p hp => ?_)
  · rw [e10]
    show (if q ≤ k ∧ k < q + n then S (10 + j) (f + (k - q)) else S (10 + i) k) = (if 40 * i + q ≤ 40 * i + k ∧ 40 * i + k < 40 * i + q + n then S 24 (40 * j + f + (40 * i + k - (40 * i + q))) else S 24 (40 * i + k))
    by_cases z : q ≤ k ∧ k < q + n
    · rw [if_pos z, if_pos (by omega), (h.s j hj).2.2.2 _ (by omega), show 40 * j + f + (40 * i + k - (40 * i + q)) = 40 * j + (f + (k - q)) by omega]
    · rw [if_neg z, if_neg (by omega)]
      exact (h.s i hi).2.2.2 k hk
  · show (if 40 * i + q ≤ p ∧ p < 40 * i + q + n then S 24 (40 * j + f + (p - (40 * i + q))) else S 24 p) = S 24 p
    rw [if_neg (by omega)]
theorem ldN_le {ρ σ : Nat → Int32} {sz : Nat} : ldN ρ σ sz ≤ nW ρ := by
  refine Nat.not_lt.mp (fun z => ?_)
  unfold ldN at z
  have h := @lst_yes (ldP ρ σ sz) (fun i => inferInstanceAs (Decidable (¬ ((i < sz ∧ i < nW ρ) ∧ inR 0 255 (σ i))))) 40 0 (nW ρ) (Nat.zero_le _) z
  exact h (fun y => absurd y.1.2 (Nat.lt_irrefl _))
