/-! what to give up: the fewest, then the smallest number -/
theorem nI_bit {j i : Nat} (hi : i < 32) : (nI j).toBitVec.getLsbD i = j.testBit i := by
  show (BitVec.ofNat 32 j).getLsbD i = _
  rw [BitVec.getLsbD_ofNat]
  simp [hi]
theorem and_half {q r : Nat} : (q &&& r) / 2 = q / 2 &&& r / 2 := by
  apply Nat.eq_of_testBit_eq
  intro i
  rw [Nat.testBit_and, Nat.testBit_div_two, Nat.testBit_div_two, Nat.testBit_div_two, Nat.testBit_and]
theorem and_par {q r : Nat} : (q &&& r) % 2 = (q % 2) &&& (r % 2) := Nat.and_mod_two_pow (n := 1)
theorem par_cases (q r : Nat) : ((q % 2) &&& (r % 2) = q % 2) ∨ (q % 2 = 1 ∧ (q % 2) &&& (r % 2) = 0) := by
  rcases Nat.mod_two_eq_zero_or_one q with h | h <;> rcases Nat.mod_two_eq_zero_or_one r with g | g <;> rw [h, g] <;> decide
theorem popN_and : ∀ k q r, q < 2 ^ k → popN k (q &&& r) ≤ popN k q ∧ (popN k (q &&& r) = popN k q → q &&& r = q)
  | 0, q, r, h => by
    have : q = 0 := by
      have : (2 : Nat) ^ 0 = 1 := rfl
      omega
    subst this
    exact ⟨Nat.le_refl _, fun _ => Nat.zero_and r⟩
  | k + 1, q, r, h => by
    have h2 : q / 2 < 2 ^ k := by
      have : 2 ^ (k + 1) = 2 * 2 ^ k := Nat.pow_succ' ..
      omega
    obtain ⟨a, b⟩ := popN_and k (q / 2) (r / 2) h2
    have e1 : popN (k + 1) (q &&& r) = ((q % 2) &&& (r % 2)) + popN k (q / 2 &&& r / 2) := by
      show (q &&& r) % 2 + popN k ((q &&& r) / 2) = _
      rw [and_half, and_par]
    have e2 : popN (k + 1) q = q % 2 + popN k (q / 2) := rfl
    rw [e1, e2]
    have e3 : q &&& r = 2 * (q / 2 &&& r / 2) + ((q % 2) &&& (r % 2)) := by
      rw [← and_half, ← and_par]
      omega
    rcases par_cases q r with c | ⟨c1, c2⟩
    · rw [c] at e3 ⊢
      refine ⟨by omega, fun z => ?_⟩
      have := b (by omega)
      rw [e3, this]
      omega
    · rw [c2]
      exact ⟨by omega, fun z => by omega⟩
def isMin (D : Nat → Prop) (A : Nat → Prop) (q : Nat) : Prop := (D q ∧ A q) ∧ ∀ j, D j → A j → pop8 q < pop8 j ∨ (pop8 q = pop8 j ∧ q ≤ j)
theorem isMin_u {D A : Nat → Prop} {q r : Nat} (h : isMin D A q) (g : isMin D A r) : q = r := by
  have a := h.2 r g.1.1 g.1.2
  have b := g.2 q h.1.1 h.1.2
  omega
/-- the least of a set is the least of those that lie in K -/
theorem isMin_K {D A : Nat → Prop} {K q : Nat} (h8 : ∀ j, D j → j < 256) (hD : ∀ j, j &&& K = j → D j) (hA : ∀ j, D j → (A j ↔ A (j &&& K))) (h : isMin D A q) : isMin (fun j => j &&& K = j) A q := by
  have hk : (q &&& K) &&& K = q &&& K := by rw [Nat.and_assoc, Nat.and_self]
  obtain ⟨p1, p2⟩ := popN_and 8 q K (h8 q h.1.1)
  have h2 : popN 8 q < popN 8 (q &&& K) ∨ (popN 8 q = popN 8 (q &&& K) ∧ q ≤ q &&& K) := h.2 (q &&& K) (hD _ hk) ((hA q h.1.1).mp h.1.2)
  refine ⟨⟨p2 (by omega), h.1.2⟩, fun j hj ha => h.2 j (hD j hj) ha⟩
/-- one side's choice -/
theorem gvS_min {g : Int32 → Int32} {before cs : Int32} : ∀ n, n ≤ 256 → (gvS g before cs n = -1 ∧ ∀ j, j < n → nI j &&& (cs ^^^ (-1)) = 0 → ¬ before < g (cs &&& (nI j ^^^ (-1)))) ∨
    ∃ q, gvS g before cs n = nI q ∧ isMin (fun j => j < n ∧ nI j &&& (cs ^^^ (-1)) = 0) (fun j => before < g (cs &&& (nI j ^^^ (-1)))) q
  | 0, _ => Or.inl ⟨rfl, fun j hj => absurd hj (Nat.not_lt_zero _)⟩
  | n + 1, hn => by
    have es : gvS g before cs (n + 1) = if gvC g before cs n (gvS g before cs n) then nI n else gvS g before cs n := rfl
    rcases gvS_min (g := g) (before := before) (cs := cs) n (by omega) with ⟨h1, h2⟩ | ⟨q, h1, ⟨⟨hq1, hq2⟩, hq3⟩, hq4⟩
    · by_cases c : gvC g before cs n (gvS g before cs n)
      · rw [if_pos c] at es
        refine Or.inr ⟨n, es, ⟨⟨Nat.lt_succ_self n, c.1.1⟩, c.2⟩, fun j hj ha => ?_⟩
        by_cases z : j = n
        · subst z; exact Or.inr ⟨rfl, Nat.le_refl _⟩
        · exact absurd ha (h2 j (by omega) hj.2)
      · rw [if_neg c] at es
        refine Or.inl ⟨es.trans h1, fun j hj hs ha => ?_⟩
        by_cases z : j = n
        · subst z
          exact c ⟨⟨hs, Or.inl (by rw [h1]; decide)⟩, ha⟩
        · exact h2 j (by omega) hs ha
    · have hn1 : ¬ gvS g before cs n < 0 := by rw [h1]; exact nI_pos (by omega)
      have hlt : bcS (nI n) < bcS (gvS g before cs n) ↔ pop8 n < pop8 q := by
        have p1 := pop_le (q := n)
        have p2 := pop_le (q := q)
        rw [h1, pop_bc (by omega), pop_bc (by omega), nI_ltI (by omega) (by omega)]
      by_cases c : gvC g before cs n (gvS g before cs n)
      · rw [if_pos c] at es
        have hp := hlt.mp (c.1.2.resolve_left hn1)
        refine Or.inr ⟨n, es, ⟨⟨Nat.lt_succ_self n, c.1.1⟩, c.2⟩, fun j hj ha => ?_⟩
        by_cases z : j = n
        · subst z; exact Or.inr ⟨rfl, Nat.le_refl _⟩
        · have := hq4 j ⟨by omega, hj.2⟩ ha
          omega
      · rw [if_neg c] at es
        refine Or.inr ⟨q, es.trans h1, ⟨⟨by omega, hq2⟩, hq3⟩, fun j hj ha => ?_⟩
        by_cases z : j = n
        · subst z
          have : ¬ pop8 j < pop8 q := fun y => c ⟨⟨hj.2, Or.inr (hlt.mpr y)⟩, ha⟩
          omega
        · exact hq4 j ⟨by omega, hj.2⟩ ha
/-- the reference's -/
theorem gvR_min {A : Nat → Prop} [DecidablePred A] {N : Nat} : ∀ k, k ≤ N → (gvR A N k = none ∧ ∀ j, N - k ≤ j → j < N → ¬ A j) ∨ ∃ q, gvR A N k = some q ∧ isMin (fun j => N - k ≤ j ∧ j < N) A q
  | 0, _ => Or.inl ⟨rfl, fun j h1 h2 => by omega⟩
  | k + 1, hk => by
    have es : gvR A N (k + 1) = if (∀ q, gvR A N k = some q → pop8 (N - 1 - k) ≤ pop8 q) ∧ A (N - 1 - k) then some (N - 1 - k) else gvR A N k := rfl
    rcases gvR_min (A := A) (N := N) k (by omega) with ⟨h1, h2⟩ | ⟨q, h1, ⟨⟨hq1, hq2⟩, hq3⟩, hq4⟩
    · by_cases c : (∀ q, gvR A N k = some q → pop8 (N - 1 - k) ≤ pop8 q) ∧ A (N - 1 - k)
      · rw [if_pos c] at es
        refine Or.inr ⟨_, es, ⟨⟨by omega, by omega⟩, c.2⟩, fun j hj ha => ?_⟩
        by_cases z : j = N - 1 - k
        · rw [z]; exact Or.inr ⟨rfl, Nat.le_refl _⟩
        · exact absurd ha (h2 j (by omega) hj.2)
      · rw [if_neg c] at es
        refine Or.inl ⟨es.trans h1, fun j hj1 hj2 ha => ?_⟩
        by_cases z : j = N - 1 - k
        · exact c ⟨fun q hq => (by rw [h1] at hq; cases hq), by rw [← z]; exact ha⟩
        · exact h2 j (by omega) hj2 ha
    · by_cases c : (∀ q, gvR A N k = some q → pop8 (N - 1 - k) ≤ pop8 q) ∧ A (N - 1 - k)
      · rw [if_pos c] at es
        have hp := c.1 q h1
        refine Or.inr ⟨_, es, ⟨⟨by omega, by omega⟩, c.2⟩, fun j hj ha => ?_⟩
        by_cases z : j = N - 1 - k
        · rw [z]; exact Or.inr ⟨rfl, Nat.le_refl _⟩
        · have := hq4 j ⟨by omega, hj.2⟩ ha
          omega
      · rw [if_neg c] at es
        refine Or.inr ⟨q, es.trans h1, ⟨⟨by omega, hq2⟩, hq3⟩, fun j hj ha => ?_⟩
        by_cases z : j = N - 1 - k
        · have : ¬ pop8 (N - 1 - k) ≤ pop8 q := fun y => c ⟨fun r hr => (by rw [h1] at hr; cases hr; exact y), by rw [← z]; exact ha⟩
          rw [z]
          omega
        · exact hq4 j ⟨by omega, hj.2⟩ ha
/-- the cares for the things that are there, as a number -/
def cK (cs : Int32) (n : Nat) : Nat := cs.toBitVec.toNat % 2 ^ n
theorem cK_bit {cs : Int32} {n i : Nat} : (cK cs n).testBit i = (decide (i < n) && cs.toBitVec.getLsbD i) := by
  unfold cK
  rw [Nat.testBit_mod_two_pow]
  rfl
theorem cK_lt {cs : Int32} {n : Nat} : cK cs n < 2 ^ n := Nat.mod_lt _ (Nat.two_pow_pos n)
theorem cK_sub {cs : Int32} {n j : Nat} (h : j &&& cK cs n = j) : nI j &&& (cs ^^^ (-1)) = 0 := by
  refine i32e (fun i hi => ?_)
  rw [and_bit, xor_bit, m1_bit hi, nI_bit hi, show (0 : Int32).toBitVec.getLsbD i = false by simp]
  have hb : j.testBit i = (j.testBit i && (decide (i < n) && cs.toBitVec.getLsbD i)) := by rw [← cK_bit, ← Nat.testBit_and, h]
  cases h1 : j.testBit i
  · rfl
  · rw [h1] at hb
    cases h2 : cs.toBitVec.getLsbD i
    · rw [h2] at hb; simp at hb
    · rfl
theorem gv_c {ρ : Nat → Int32} (hwf : WF ρ) {w : Nat} (hw : w < nW ρ) {cs : Int32} {j : Nat} (n : Nat) : gotS ρ w 3 (cs &&& (nI j ^^^ (-1))) n = gotS ρ w 3 (cs &&& (nI (j &&& cK cs (nT ρ)) ^^^ (-1))) n := by
  refine gotS_c hwf hw (fun t ht => ?_) n
  have h8 := hwf.tl
  rw [care_bit (by omega), care_bit (by omega), and_bit, and_bit, xor_bit, xor_bit, m1_bit (by omega), nI_bit (by omega), nI_bit (by omega), Nat.testBit_and, cK_bit]
  have hd : decide (t < nT ρ) = true := decide_eq_true ht
  rw [hd]
  cases cs.toBitVec.getLsbD t <;> cases j.testBit t <;> exact Iff.rfl
theorem gv_eq {ρ : Nat → Int32} (hwf : WF ρ) {w : Nat} (hw : w < nW ρ) (cs before : Int32) (n N0 : Nat) (hN : N0 = 2 ^ nT ρ) :
    gvS (fun v => gotS ρ w 3 v n) before cs 256 = oI (gvR (fun i => before < gotS ρ w 3 (cs &&& (nI i ^^^ (-1))) n) N0 N0) := by
  have h8 := hwf.tl
  have hp := shl_pow (t := nT ρ) h8
  have hK := cK_lt (cs := cs) (n := nT ρ)
  have le : ∀ j, j &&& cK cs (nT ρ) = j → j < N0 := fun j hj => by
    have : j ≤ cK cs (nT ρ) := by rw [← hj]; exact Nat.and_le_right
    omega
  have hkk : ∀ j, (j &&& cK cs (nT ρ)) &&& cK cs (nT ρ) = j &&& cK cs (nT ρ) := fun j => by rw [Nat.and_assoc, Nat.and_self]
  have hA : ∀ j, (before < gotS ρ w 3 (cs &&& (nI j ^^^ (-1))) n ↔ before < gotS ρ w 3 (cs &&& (nI (j &&& cK cs (nT ρ)) ^^^ (-1))) n) := fun j => by rw [gv_c hwf hw n]
  rcases gvS_min (g := fun v => gotS ρ w 3 v n) (before := before) (cs := cs) 256 (Nat.le_refl _) with ⟨h1, h2⟩ | ⟨q, h1, h2⟩
  · rcases gvR_min (A := fun i => before < gotS ρ w 3 (cs &&& (nI i ^^^ (-1))) n) (N := N0) N0 (Nat.le_refl _) with ⟨g1, g2⟩ | ⟨r, g1, g2⟩
    · rw [h1, g1]; rfl
    · have hr := (hA r).mp g2.1.2
      exact absurd hr (h2 (r &&& cK cs (nT ρ)) (by have := le _ (hkk r); omega) (cK_sub (hkk r)))
  · have m1 := isMin_K (K := cK cs (nT ρ)) (fun j hj => hj.1) (fun j hj => ⟨by have := le j hj; omega, cK_sub hj⟩) (fun j _ => hA j) h2
    rcases gvR_min (A := fun i => before < gotS ρ w 3 (cs &&& (nI i ^^^ (-1))) n) (N := N0) N0 (Nat.le_refl _) with ⟨g1, g2⟩ | ⟨r, g1, g2⟩
    · exact absurd m1.1.2 (g2 q (by omega) (le q m1.1.1))
    · have m2 := isMin_K (K := cK cs (nT ρ)) (fun j hj => by have := hj.2; omega) (fun j hj => ⟨by omega, le j hj⟩) (fun j _ => hA j) g2
      rw [h1, g1, isMin_u m1 m2]
      rfl
set_option maxHeartbeats 1000000 in
theorem op_giveUp (E : QE) (l : Launch) : qH_giveUp E l qJ := by
  intro S hJ a1 a2
  by_cases h : isW (S 0) a1 ∧ inR 0 20 a2
  · obtain ⟨w, hw, rfl⟩ := isW_n hJ.w0 h.1
    have hw2 : w < nW (S 16) := by rw [← hJ.e.nW]; exact hw
    obtain ⟨n, -, hn, rfl⟩ := inR_n (by decide) h.2
    have e3 := hJ.e.2.2 w 3 hw (by omega)
    have e4 := hJ.e.2.2 w 4 hw (by omega)
    have eg : (fun v => gotS (S 0) w 3 v n) = fun v => gotS (S 16) w 3 v n := funext fun v => got_e hJ.e (WF_free hJ.w16 (by omega)) hw2 n
    have e := gv_eq hJ.w16 hw2 (S 16 (44 + 6 * w + 3)) (S 16 (44 + 6 * w + 4)) n (2 ^ nT (S 16)) rfl
    rw [← eg, ← e3, ← e4] at e
    by_cases hF : gvS (fun v => gotS (S 0) w 3 v n) (S 0 (44 + 6 * w + 4)) (S 0 (44 + 6 * w + 3)) 256 < 0
    · refine qOp_pp (d2 := 11) (P' := fun u => bhG (qr u 19 (fnR (S 19) 3)) (S 16)) (c_X_giveUp_n l E S (S 0) (S 14) (S 2) rfl rfl rfl hJ.w0 w n hw hn hJ.w2 hF) (fun u hu => ?_) (fun u hu v hv => J_anyF hJ (by decide) hu hv) (by decide) (by decide)
      obtain ⟨τ, -, rfl⟩ := hu
      refine c_R_giveUp_n l E _ (S 16) (by rfl) hJ.w16 _ (by rfl) (S 19) (by rfl) w n hw2 hn (2 ^ nT (S 16)) rfl ?_
      have hp := shl_pow (t := nT (S 16)) hJ.w16.tl
      rw [e] at hF
      rw [← e3, ← e4]
      exact oI_neg (by omega) (by omega) hF
    · rw [e] at hF
      obtain ⟨q, hq, hq2⟩ := oI_pos hF
      refine qOp_pp (d2 := 11) (P' := fun u => bhG u (S 16)) (c_X_giveUp_g l E S (S 0) (S 14) (S 2) rfl rfl rfl hJ.w0 w n hw hn hJ.w2 (by rw [e]; exact hF)) (fun u hu => ?_) (fun u hu v hv => J_any hJ hu hv) (by decide) (by decide)
      obtain ⟨τ, -, rfl⟩ := hu
      rw [e, hq2]
      refine c_R_giveUp_g l E _ (S 16) (by rfl) hJ.w16 _ (by rfl) w n hw2 hn (2 ^ nT (S 16)) rfl q ?_
      rw [← e3, ← e4]
      exact hq
  · exact qOp_xx (c_X_giveUp_b l E S (S 0) (S 14) rfl rfl hJ.w0 _ _ h) (c_R_giveUp_b l E _ (S 16) (by rfl) hJ.w16 (S 19) (by rfl) _ _ (fun z => h ⟨(isW_e hJ.e).mpr z.1, z.2⟩)) (J_fn hJ 0 (by decide)) (by decide) (by decide)
