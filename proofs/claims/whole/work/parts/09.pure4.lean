def addT (ρ : Nat → Int32) (kd cl : Int32) : Nat → Int32 := upd (upd (upd (upd ρ (20 + 3 * nT ρ) kd) (20 + 3 * nT ρ + 1) cl) (20 + 3 * nT ρ + 2) (nI 0)) 1 (nI (nT ρ + 1))
def addW (ρ : Nat → Int32) (cl am : Int32) : Nat → Int32 := upd (upd (upd (upd (upd (upd (upd ρ (44 + 6 * nW ρ) cl) (44 + 6 * nW ρ + 1) am) (44 + 6 * nW ρ + 2) (nI 2)) (44 + 6 * nW ρ + 3) (nI 0)) (44 + 6 * nW ρ + 4) (nI 0)) (44 + 6 * nW ρ + 5) (nI 0)) 3 (nI (nW ρ + 1))
def nxt (z : Int32) : Int32 := z * nI 1103515245 + nI 12345
def drw (z : Int32) : Int32 := (z.toUInt32 >>> ((nI 8).toUInt32 &&& Int32.toUInt32 31)).toInt32
def bec1 (ρ ν : Nat → Int32) : Nat → Int32 := fo (fun t μ => cpy ν (20 + 3 * t) μ (20 + 3 * t) 3) (nT ν) (cpy ν 4 ρ 4 6)
def bec2 (ρ ν : Nat → Int32) : Nat → Int32 := fo (fun w μ => cpy ν (44 + 6 * w) μ (44 + 6 * w) 6) (nW ν) (bec1 ρ ν)
def becS (ρ ν : Nat → Int32) : Nat → Int32 := upd (upd (upd (upd (cpy ν 10 (bec2 ρ ν) 10 10) 1 (ν 1)) 3 (ν 3)) 0 (ν 0)) 2 (ν 2)
def sumS (ρ : Nat → Int32) (f : Nat) : Int32 := fo (fun w a => a + ρ (44 + 6 * w + f)) (nW ρ) (nI 0)
def setS (P : Nat → Prop) [DecidablePred P] (n : Nat) : Int32 := fo (fun i a => if P i then a ||| bt i else a) n (nI 0)
def carS (ρ : Nat → Int32) : Int32 := fo (fun w a => a ||| ρ (44 + 6 * w + 3)) (nW ρ) (nI 0) &&& (nI 1 <<< (ρ 1 &&& 31) - nI 1)
def wcsS (ρ : Nat → Int32) : Int32 := fo (fun w a => a ||| nI 1 <<< (ρ (44 + 6 * w) &&& 31)) (nW ρ) (nI 0)
def tcsS (ρ : Nat → Int32) : Int32 := fo (fun t a => a ||| nI 1 <<< (ρ (20 + 3 * t + 1) &&& 31)) (nT ρ) (nI 0)
def seeS (ρ : Nat → Int32) (w : Nat) : Int32 := setS (fun t => see ρ w t) (nT ρ)
def snbS (ρ : Nat → Int32) (t : Nat) : Int32 := setS (fun w => see ρ w t) (nW ρ)
abbrev gdd (ρ : Nat → Int32) (w : Nat) : Prop := isT ρ (ρ (44 + 6 * w + 1)) ∧ fnd ρ w (ρ (44 + 6 * w + 1)).toNatClampNeg
theorem walkS_c {ρ : Nat → Int32} {w t : Nat} {b d : Prop} [Decidable b] [Decidable d] (h : b ↔ d) : walkS ρ w t b = walkS ρ w t d := by
  have e : goS ρ w t b = goS ρ w t d := by
    unfold goS
    by_cases hb : b
    · rw [if_pos hb, if_pos (h.mp hb)]
    · rw [if_neg hb, if_neg (fun z => hb (h.mpr z))]
  unfold walkS
  rw [e]
def hldS (ρ : Nat → Int32) : Int32 := fo (fun i a => if ρ (10 + i) < 0 then a else a + 1) 10 (nI 0)
def unsS (ρ : Nat → Int32) : Int32 := setS (fun t => snbS ρ t = 0) (nT ρ)
theorem fo_succ {α : Type} {f : Nat → α → α} {n : Nat} {s : α} : fo f (n + 1) s = f n (fo f n s) := rfl
def anc (j : Nat) : List Nat := ([[0], [1, 0], [2, 0], [3, 2, 0], [4, 3, 2, 0], [5, 0], [6, 1, 0]] : List (List Nat)).getD j []
abbrev und (j b : Nat) : Prop := b ∈ anc j
def fnS (φ : Nat → Int32) (i : Nat) : Nat → Int32 := upd φ i (φ i + nI 1)
