theorem b255 {i : Nat} (hi : i < 32) : (nI 255).toBitVec.getLsbD i = decide (i < 8) := by
  have h : ((List.range 32).all fun i => (nI 255).toBitVec.getLsbD i == decide (i < 8)) = true := by decide +kernel
  exact eq_of_beq (List.all_eq_true.mp h i (List.mem_range.mpr hi))
theorem byt_gen {v : Int32} {k : Nat} (hk : k ≤ 24) (e1 : ((nI k &&& 31).toBitVec.smod 32) = BitVec.ofNat 32 k) (e2 : ((nI k).toUInt32 &&& Int32.toUInt32 31).toNat = k) : (v >>> (nI k &&& 31)) &&& nI 255 = ush v k &&& nI 255 := by
  refine i32e (fun i hi => ?_)
  rw [and_bit, and_bit, b255 hi]
  by_cases h : i < 8
  · have a1 : (v >>> (nI k &&& 31)).toBitVec = v.toBitVec.sshiftRight k := by
      rw [Int32.toBitVec_shiftRight, e1]
      show v.toBitVec.sshiftRight (BitVec.ofNat 32 k).toNat = _
      rw [BitVec.toNat_ofNat, Nat.mod_eq_of_lt (by omega)]
    have a2 : (ush v k).toBitVec = v.toBitVec >>> k := by
      unfold ush
      show (v.toUInt32 >>> ((nI k).toUInt32 &&& Int32.toUInt32 31)).toBitVec = _
      rw [UInt32.toBitVec_shiftRight]
      show v.toBitVec >>> ((((nI k).toUInt32 &&& Int32.toUInt32 31).toBitVec % 32)) = _
      have : (((nI k).toUInt32 &&& Int32.toUInt32 31).toBitVec % 32) = BitVec.ofNat 32 k := by
        apply BitVec.eq_of_toNat_eq
        rw [BitVec.toNat_umod, BitVec.toNat_ofNat]
        show ((nI k).toUInt32 &&& Int32.toUInt32 31).toNat % 32 = _
        rw [e2, Nat.mod_eq_of_lt (by omega), Nat.mod_eq_of_lt (by omega)]
      rw [this]
      show v.toBitVec >>> (BitVec.ofNat 32 k).toNat = _
      rw [BitVec.toNat_ofNat, Nat.mod_eq_of_lt (by omega)]
    rw [a1, a2, BitVec.getLsbD_sshiftRight, BitVec.getLsbD_ushiftRight]
    simp [h]
    have : k + i < 32 := by omega
    simp [this]
    omega
  · simp [h]
theorem byt_0 {v : Int32} : (v >>> (nI 0 &&& 31)) &&& nI 255 = byt v 0 := byt_gen (by decide) (by decide +kernel) (by decide +kernel)
theorem byt_1 {v : Int32} : (v >>> (nI 8 &&& 31)) &&& nI 255 = byt v 1 := byt_gen (by decide) (by decide +kernel) (by decide +kernel)
theorem byt_2 {v : Int32} : (v >>> (nI 16 &&& 31)) &&& nI 255 = byt v 2 := byt_gen (by decide) (by decide +kernel) (by decide +kernel)
theorem byt_3 {v : Int32} : (v >>> (nI 24 &&& 31)) &&& nI 255 = byt v 3 := byt_gen (by decide) (by decide +kernel) (by decide +kernel)
theorem add0 {a : Int32} : a + nI 0 = a := by
  show a + 0 = a
  exact Int32.add_zero a
def popN : Nat → Nat → Nat
  | 0, _ => 0
  | k + 1, q => q % 2 + popN k (q / 2)
abbrev pop8 (q : Nat) : Nat := popN 8 q
def popB (q : Nat) : Bool := decide (bcS (nI q) = nI (pop8 q)) && (decide (q = 0) || (decide (nI q &&& (nI q - nI 1) = nI (q &&& (q - 1))) && decide (pop8 (q &&& (q - 1)) + 1 = pop8 q)))
theorem pop_all : ((List.range 256).all popB) = true := by decide +kernel
theorem pop_bc {q : Nat} (h : q < 256) : bcS (nI q) = nI (pop8 q) := by
  have := List.all_eq_true.mp pop_all q (List.mem_range.mpr h)
  unfold popB at this
  rw [Bool.and_eq_true] at this
  exact of_decide_eq_true this.1
theorem pop_st {q : Nat} (h : q < 256) (h0 : ¬ q = 0) : nI q &&& (nI q - nI 1) = nI (q &&& (q - 1)) ∧ pop8 (q &&& (q - 1)) + 1 = pop8 q := by
  have := List.all_eq_true.mp pop_all q (List.mem_range.mpr h)
  unfold popB at this
  simp only [Bool.and_eq_true, Bool.or_eq_true, decide_eq_true_eq] at this
  exact this.2.resolve_left h0
theorem pop_le {q : Nat} : pop8 q ≤ 8 := by
  simp only [pop8, popN]
  omega
theorem shl_pow {t : Nat} (h : t ≤ 8) : nI 1 <<< (nI t &&& 31) = nI (2 ^ t) ∧ 2 ^ t ≤ 256 ∧ 1 ≤ 2 ^ t := by
  rcases (show t = 0 ∨ t = 1 ∨ t = 2 ∨ t = 3 ∨ t = 4 ∨ t = 5 ∨ t = 6 ∨ t = 7 ∨ t = 8 by omega) with rfl | rfl | rfl | rfl | rfl | rfl | rfl | rfl | rfl <;> exact ⟨by decide, by decide, by decide⟩
/-- the reference's choice: sets from N - 1 down, k of them looked at -/
def gvR (A : Nat → Prop) [DecidablePred A] (N : Nat) : Nat → Option Nat
  | 0 => none
  | k + 1 => if (∀ q, gvR A N k = some q → pop8 (N - 1 - k) ≤ pop8 q) ∧ A (N - 1 - k) then some (N - 1 - k) else gvR A N k
def oI (o : Option Nat) : Int32 := match o with
  | some q => nI q
  | none => (-1)
theorem gvR_lt {A : Nat → Prop} [DecidablePred A] {N : Nat} (hN : 1 ≤ N) : ∀ k q, gvR A N k = some q → q < N
  | 0, q, h => by cases h
  | k + 1, q, h => by
    unfold gvR at h
    split at h
    · cases h; omega
    · exact gvR_lt hN k q h
theorem toI64 {f : Nat} (h : f < 2147483648) : ((nI f).toInt64).toInt = (f : Int) := by
  rw [Int32.toInt_toInt64, nI_toInt (by omega)]
theorem lgN {f n sz : Nat} (hf : f < 2147483648) (hn : n < 2147483648) (hs : sz < 2147483648) : (0 < lg_cmp ((nI f).toInt64 + (nI n).toInt64) ((nI sz).toInt64)) ↔ sz < f + n := by
  rw [lg_cmp_gt, Int64.lt_iff_toInt_lt, Int64.toInt_add, toI64 hf, toI64 hn, toI64 hs, Int.bmod_eq_of_le (by omega) (by omega)]
  omega
theorem lgN2 {f n sz : Nat} (hf : f < 2147483648) (hn : n < 2147483648) (hs : sz < 2147483648) : (lg_cmp ((nI f).toInt64 + (nI n).toInt64) ((nI sz).toInt64) ≤ 0) ↔ f + n ≤ sz := by
  rw [lg_cmp_le, Int64.le_iff_toInt_le, Int64.toInt_add, toI64 hf, toI64 hn, toI64 hs, Int.bmod_eq_of_le (by omega) (by omega)]
  omega
theorem hasL {x z : Int32} {sz : Nat} (hz : sz ≤ 1000) (h1 : ¬ x < 0) (h2 : ¬ z < 0) (h : lg_cmp (x.toInt64 + z.toInt64) ((nI sz).toInt64) ≤ 0) : hasS x z (nI sz) := by
  obtain ⟨f, hf, rfl⟩ := nI_of h1
  obtain ⟨n, hn, rfl⟩ := nI_of h2
  have := (lgN2 (by omega) (by omega) (by omega)).mp h
  exact has_i hz rfl this
theorem cpy_0 {f g : Nat → Int32} {o q : Nat} : g = cpy f o g q 0 := by
  funext p
  unfold cpy
  rw [if_neg (by omega)]
theorem cpy_s {f g : Nat → Int32} {o q n : Nat} : upd (cpy f o g q n) (q + n) (f (o + n)) = cpy f o g q (n + 1) := by
  funext p
  unfold cpy upd
  by_cases h : p = q + n
  · subst h
    rw [if_pos rfl, if_pos (by omega), show q + n - q = n by omega]
  · rw [if_neg h]
    show (if q ≤ p ∧ p < q + n then f (o + (p - q)) else g p) = _
    by_cases z : q ≤ p ∧ p < q + n
    · rw [if_pos z, if_pos (by omega)]
    · rw [if_neg z, if_neg (by omega)]
def zr40 (j : Nat) (η : Nat → Int32) : Nat → Nat → Int32
  | 0 => η
  | k + 1 => upd (zr40 j η k) (40 * j + k) (nI 0)
abbrev shr (η : Nat → Int32) (j : Nat) : Nat → Int32 := fun k => η (40 * j + k)
def redB (a : Nat) : Bool := decide (redF a 16 = (a / Nat.gcd a 16, 16 / Nat.gcd a 16))
theorem red_all : ((List.range 17).all redB) = true := by decide +kernel
theorem red_gcd {a : Nat} (h : a ≤ 16) : redF a 16 = (a / Nat.gcd a 16, 16 / Nat.gcd a 16) := of_decide_eq_true (List.all_eq_true.mp red_all a (List.mem_range.mpr (by omega)))
theorem neg_j {j : Nat} (h : j ≤ 1000) : (nI j - nI 1 < 0) ↔ j = 0 := by
  rw [Int32.lt_iff_toInt_lt, sub1_toInt h]
  have : (0 : Int32).toInt = 0 := by decide
  omega
theorem gvR_s {A : Nat → Prop} [DecidablePred A] {N j : Nat} (h1 : 1 ≤ j) (h : j ≤ N) : gvR A N (N - (j - 1)) = if (∀ q, gvR A N (N - j) = some q → pop8 (j - 1) ≤ pop8 q) ∧ A (j - 1) then some (j - 1) else gvR A N (N - j) := by
  rw [show N - (j - 1) = (N - j) + 1 by omega, gvR, show N - 1 - (N - j) = j - 1 by omega]
theorem oI_neg {A : Nat → Prop} [DecidablePred A] {N k : Nat} (hN : 1 ≤ N) (hb : N ≤ 1000) (h : oI (gvR A N k) < 0) : gvR A N k = none := by
  cases hq : gvR A N k with
  | none => rfl
  | some q =>
    rw [hq] at h
    have := gvR_lt hN k q hq
    exact absurd h (nI_pos (by omega))
theorem oI_pos {o : Option Nat} (h : ¬ oI o < 0) : ∃ q, o = some q ∧ oI o = nI q := by
  cases o with
  | none => exact absurd (by decide) h
  | some q => exact ⟨q, rfl, rfl⟩
theorem gcd_st {a b : Nat} : Nat.gcd (a % b) b = Nat.gcd b a := (Nat.gcd_rec b a).symm
theorem qr_selfE {S : QM} {i : Nat} {r : Nat → Int32} (h : S i = r) : qr S i r = S := by
  rw [← h, qr_self]
