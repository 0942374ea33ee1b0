def S0 : QM := fun r p => if r = 0 ∨ r = 1 ∨ r = 2 ∨ r = 16 then (if p = 2 then nI 1 else if 10 ≤ p ∧ p < 20 then (-1) else 0) else 0
theorem S0_z {r p : Nat} (h : ¬ (r = 0 ∨ r = 1 ∨ r = 2 ∨ r = 16)) : S0 r p = 0 := by
  unfold S0
  rw [if_neg h]
theorem S0_k {r p : Nat} (h : r = 0 ∨ r = 1 ∨ r = 2 ∨ r = 16) : S0 r p = if p = 2 then nI 1 else if 10 ≤ p ∧ p < 20 then (-1) else 0 := by
  unfold S0
  rw [if_pos h]
theorem ctn_z {r o n : Nat} (h : ¬ (r = 0 ∨ r = 1 ∨ r = 2 ∨ r = 16)) : ctn S0 (r, (o, n)) = fun _ => 0 := by
  funext j
  unfold ctn
  rw [S0_z h]
  split <;> rfl
theorem ctn_y {r o n : Nat} (h : r = 0 ∨ r = 1 ∨ r = 2 ∨ r = 16) (h2 : ∀ j, j < n → ¬ o + j = 2 ∧ ¬ (10 ≤ o + j ∧ o + j < 20)) : ctn S0 (r, (o, n)) = fun _ => 0 := by
  funext j
  unfold ctn
  split
  · rename_i hj
    have h3 := h2 j hj
    show S0 r (o + j) = 0
    rw [S0_k h, if_neg h3.1, if_neg h3.2]
  · rfl
theorem ctn_s {r : Nat} (h : r = 0 ∨ r = 1 ∨ r = 2 ∨ r = 16) : ctn S0 (r, (10, 10)) = fun j => if j < 10 then (-1) else 0 := by
  funext j
  unfold ctn
  by_cases z : j < 10
  · rw [if_pos z, if_pos z]
    show S0 r (10 + j) = -1
    rw [S0_k h, if_neg (by omega), if_pos (by omega)]
  · rw [if_neg z, if_neg z]
theorem ctn_n : ctn S0 (16, (0, 80)) = fun p => if p = 2 then nI 1 else if 10 ≤ p ∧ p < 20 then (-1) else 0 := by
  funext j
  unfold ctn
  by_cases z : j < 80
  · rw [if_pos z]
    show S0 16 (0 + j) = _
    rw [S0_k (by decide), Nat.zero_add]
  · rw [if_neg z, if_neg (by omega), if_neg (by omega)]
theorem rf_8 {f g : Nat → Option Nat} {n : Nat} (h : ∀ j, j < n → f j = g j) (hf : ∀ j, n ≤ j → f j = none) (hg : ∀ j, n ≤ j → g j = none) : f = g := by
  funext j
  by_cases z : j < n
  · exact h j z
  · rw [hf j (by omega), hg j (by omega)]
theorem rfn_no {E : QE} {r : Nat × List Nat} {j : Nat} (h : r.2.length ≤ j) : rfn E r j = none := by
  unfold rfn
  rw [List.getElem?_eq_none h]
  rfl
def mkE (E0 : QE) (A : Nat → Nat) : QE := (eG E0, A, eC E0, eZ E0, eK E0, eV E0)
def adrL (u v : Nat → Nat) : List Nat := [u 0, u 1, u 7, u 8, u 9, u 10, u 8 + 1 + 0, u 8 + 1 + 1, u 8 + 1 + 2, u 8 + 1 + 3, u 8 + 1 + 4, u 8 + 1 + 5, u 8 + 1 + 6, u 8 + 1 + 7, u 9 + 1 + 0, u 9 + 1 + 1, u 9 + 1 + 2, u 9 + 1 + 3, u 9 + 1 + 4, u 9 + 1 + 5, u 2, u 11, u 12, u 13, u 14, u 12 + 1 + 0, u 12 + 1 + 1, u 12 + 1 + 2, u 12 + 1 + 3, u 12 + 1 + 4, u 12 + 1 + 5, u 12 + 1 + 6, u 12 + 1 + 7, u 13 + 1 + 0, u 13 + 1 + 1, u 13 + 1 + 2, u 13 + 1 + 3, u 13 + 1 + 4, u 13 + 1 + 5, u 3, u 15, u 16, u 17, u 18, u 16 + 1 + 0, u 16 + 1 + 1, u 16 + 1 + 2, u 16 + 1 + 3, u 16 + 1 + 4, u 16 + 1 + 5, u 16 + 1 + 6, u 16 + 1 + 7, u 17 + 1 + 0, u 17 + 1 + 1, u 17 + 1 + 2, u 17 + 1 + 3, u 17 + 1 + 4, u 17 + 1 + 5, u 4, u 19, u 5, u 20, u 21, u 22, u 23, u 24, u 25, u 26, u 27, u 6, v 0, v 1, v 2, v 3, v 4, v 5, v 6, v 7, v 8, v 9, v 10, v 11]
def gP (k : Nat) : Nat := [0, 1, 2, 3, 12, 19, 4, 5, 6, 7, 8, 9, 10, 11, 13, 14, 15, 16, 17, 18, 20, 21, 22, 31, 38, 23, 24, 25, 26, 27, 28, 29, 30, 32, 33, 34, 35, 36, 37, 39, 40, 41, 50, 57, 42, 43, 44, 45, 46, 47, 48, 49, 51, 52, 53, 54, 55, 56, 58, 59, 60, 61, 63, 65, 67, 62, 64, 66, 68, 69, 70, 71, 72, 73, 74, 75, 76, 77, 78, 79, 80, 81].getD k 0
def fE (E0 : QE) (u v : Nat → Nat) : QE := mkE E0 (fun c => (adrL u v).getD c 0)
set_option maxRecDepth 100000 in
def wlF (E : QE) (u v : Nat → Nat) : va_W := [((u 0), .inr (3, [.ref (u 1), .ref (u 2), .ref (u 3), .int (nI 0), .ref (u 4), .ref (u 5), .ref (u 6)])),
  ((u 1), .inr (0, [.ref (u 7), .ref (u 8), .ref (u 9), .ref (u 10), .int (nI 0), .int (nI 0), .int (nI 0), .int (nI 1)])),
  ((u 7), .inl (eC E 0, 6, .inl (fun _ => 0))),
  ((u 8), .inl (eC E 2, 8, .inr (.inr (.inr (.inr (fun j => if j < 8 then some ((u 8) + 1 + j) else none)))))),
  ((u 8) + 1 + 0, .inl (eC E 0, 3, .inl (fun _ => 0))),
  ((u 8) + 1 + 1, .inl (eC E 0, 3, .inl (fun _ => 0))),
  ((u 8) + 1 + 2, .inl (eC E 0, 3, .inl (fun _ => 0))),
  ((u 8) + 1 + 3, .inl (eC E 0, 3, .inl (fun _ => 0))),
  ((u 8) + 1 + 4, .inl (eC E 0, 3, .inl (fun _ => 0))),
  ((u 8) + 1 + 5, .inl (eC E 0, 3, .inl (fun _ => 0))),
  ((u 8) + 1 + 6, .inl (eC E 0, 3, .inl (fun _ => 0))),
  ((u 8) + 1 + 7, .inl (eC E 0, 3, .inl (fun _ => 0))),
  ((u 9), .inl (eC E 2, 6, .inr (.inr (.inr (.inr (fun j => if j < 6 then some ((u 9) + 1 + j) else none)))))),
  ((u 9) + 1 + 0, .inl (eC E 0, 6, .inl (fun _ => 0))),
  ((u 9) + 1 + 1, .inl (eC E 0, 6, .inl (fun _ => 0))),
  ((u 9) + 1 + 2, .inl (eC E 0, 6, .inl (fun _ => 0))),
  ((u 9) + 1 + 3, .inl (eC E 0, 6, .inl (fun _ => 0))),
  ((u 9) + 1 + 4, .inl (eC E 0, 6, .inl (fun _ => 0))),
  ((u 9) + 1 + 5, .inl (eC E 0, 6, .inl (fun _ => 0))),
  ((u 10), .inl (eC E 0, 10, .inl (fun j => if j < 10 then (-1) else 0))),
  ((u 2), .inr (0, [.ref (u 11), .ref (u 12), .ref (u 13), .ref (u 14), .int (nI 0), .int (nI 0), .int (nI 0), .int (nI 1)])),
  ((u 11), .inl (eC E 0, 6, .inl (fun _ => 0))),
  ((u 12), .inl (eC E 2, 8, .inr (.inr (.inr (.inr (fun j => if j < 8 then some ((u 12) + 1 + j) else none)))))),
  ((u 12) + 1 + 0, .inl (eC E 0, 3, .inl (fun _ => 0))),
  ((u 12) + 1 + 1, .inl (eC E 0, 3, .inl (fun _ => 0))),
  ((u 12) + 1 + 2, .inl (eC E 0, 3, .inl (fun _ => 0))),
  ((u 12) + 1 + 3, .inl (eC E 0, 3, .inl (fun _ => 0))),
  ((u 12) + 1 + 4, .inl (eC E 0, 3, .inl (fun _ => 0))),
  ((u 12) + 1 + 5, .inl (eC E 0, 3, .inl (fun _ => 0))),
  ((u 12) + 1 + 6, .inl (eC E 0, 3, .inl (fun _ => 0))),
  ((u 12) + 1 + 7, .inl (eC E 0, 3, .inl (fun _ => 0))),
  ((u 13), .inl (eC E 2, 6, .inr (.inr (.inr (.inr (fun j => if j < 6 then some ((u 13) + 1 + j) else none)))))),
  ((u 13) + 1 + 0, .inl (eC E 0, 6, .inl (fun _ => 0))),
  ((u 13) + 1 + 1, .inl (eC E 0, 6, .inl (fun _ => 0))),
  ((u 13) + 1 + 2, .inl (eC E 0, 6, .inl (fun _ => 0))),
  ((u 13) + 1 + 3, .inl (eC E 0, 6, .inl (fun _ => 0))),
  ((u 13) + 1 + 4, .inl (eC E 0, 6, .inl (fun _ => 0))),
  ((u 13) + 1 + 5, .inl (eC E 0, 6, .inl (fun _ => 0))),
  ((u 14), .inl (eC E 0, 10, .inl (fun j => if j < 10 then (-1) else 0))),
  ((u 3), .inr (0, [.ref (u 15), .ref (u 16), .ref (u 17), .ref (u 18), .int (nI 0), .int (nI 0), .int (nI 0), .int (nI 1)])),
  ((u 15), .inl (eC E 0, 6, .inl (fun _ => 0))),
  ((u 16), .inl (eC E 2, 8, .inr (.inr (.inr (.inr (fun j => if j < 8 then some ((u 16) + 1 + j) else none)))))),
  ((u 16) + 1 + 0, .inl (eC E 0, 3, .inl (fun _ => 0))),
  ((u 16) + 1 + 1, .inl (eC E 0, 3, .inl (fun _ => 0))),
  ((u 16) + 1 + 2, .inl (eC E 0, 3, .inl (fun _ => 0))),
  ((u 16) + 1 + 3, .inl (eC E 0, 3, .inl (fun _ => 0))),
  ((u 16) + 1 + 4, .inl (eC E 0, 3, .inl (fun _ => 0))),
  ((u 16) + 1 + 5, .inl (eC E 0, 3, .inl (fun _ => 0))),
  ((u 16) + 1 + 6, .inl (eC E 0, 3, .inl (fun _ => 0))),
  ((u 16) + 1 + 7, .inl (eC E 0, 3, .inl (fun _ => 0))),
  ((u 17), .inl (eC E 2, 6, .inr (.inr (.inr (.inr (fun j => if j < 6 then some ((u 17) + 1 + j) else none)))))),
  ((u 17) + 1 + 0, .inl (eC E 0, 6, .inl (fun _ => 0))),
  ((u 17) + 1 + 1, .inl (eC E 0, 6, .inl (fun _ => 0))),
  ((u 17) + 1 + 2, .inl (eC E 0, 6, .inl (fun _ => 0))),
  ((u 17) + 1 + 3, .inl (eC E 0, 6, .inl (fun _ => 0))),
  ((u 17) + 1 + 4, .inl (eC E 0, 6, .inl (fun _ => 0))),
  ((u 17) + 1 + 5, .inl (eC E 0, 6, .inl (fun _ => 0))),
  ((u 18), .inl (eC E 0, 10, .inl (fun j => if j < 10 then (-1) else 0))),
  ((u 4), .inr (2, [.ref (u 19), .int (nI 0), .int (nI 0), .int (nI 0), .int (nI 0), .int (nI 0)])),
  ((u 19), .inl (eC E 0, 120, .inl (fun _ => 0))),
  ((u 5), .inl (eC E 1, 4, .inr (.inr (.inr (.inr (va_up (va_up (va_up (va_up (fun _ => none) 0 (some (u 20))) 1 (some (u 21))) 2 (some (u 22))) 3 (some (u 23)))))))),
  ((u 20), .inr (1, [.ref (u 24), .int (nI 0), .int (nI 0)])),
  ((u 24), .inl (eC E 0, 40, .inl (fun _ => 0))),
  ((u 21), .inr (1, [.ref (u 25), .int (nI 0), .int (nI 0)])),
  ((u 25), .inl (eC E 0, 40, .inl (fun _ => 0))),
  ((u 22), .inr (1, [.ref (u 26), .int (nI 0), .int (nI 0)])),
  ((u 26), .inl (eC E 0, 40, .inl (fun _ => 0))),
  ((u 23), .inr (1, [.ref (u 27), .int (nI 0), .int (nI 0)])),
  ((u 27), .inl (eC E 0, 40, .inl (fun _ => 0))),
  ((u 6), .inl (eC E 0, 7, .inl (fun _ => 0))),
  ((v 0), .inr (4, [.ref (v 1), .ref (v 2), .ref (v 3), .int 0, .ref (v 4), .ref (v 5), .int 0, .int 0, .int 0, .int 0, .int 0, .int 0, .ref (v 6), .ref (v 7), .int 0, .int 0, .int 0, .ref (v 8), .ref (v 9), .ref (v 10), .ref (v 11)])),
  ((v 1), .inl (eC E 0, 80, .inl (fun p => if p = 2 then nI 1 else if 10 ≤ p ∧ p < 20 then (-1) else 0))),
  ((v 2), .inl (eC E 0, 80, .inl (fun _ => 0))),
  ((v 3), .inl (eC E 0, 80, .inl (fun _ => 0))),
  ((v 4), .inl (eC E 0, 8, .inl (fun _ => 0))),
  ((v 5), .inl (eC E 0, 120, .inl (fun _ => 0))),
  ((v 6), .inl (eC E 3, 7, .inr (.inr (.inr (.inr (va_up (va_up (va_up (va_up (va_up (va_up (va_up (fun _ => none) 0 (some (eK E 0))) 1 (some (eK E 1))) 2 (some (eK E 2))) 3 (some (eK E 3))) 4 (some (eK E 4))) 5 (some (eK E 5))) 6 (some (eK E 6)))))))),
  ((v 7), .inl (eC E 0, 600, .inl (fun _ => 0))),
  ((v 8), .inl (eC E 0, 4, .inl (fun _ => 0))),
  ((v 9), .inl (eC E 0, 4, .inl (fun _ => 0))),
  ((v 10), .inl (eC E 0, 160, .inl (fun _ => 0))),
  ((v 11), .inl (eC E 0, 40, .inl (fun _ => 0)))]
set_option maxRecDepth 100000 in
theorem wlF_eq (E : QE) (u v : Nat → Nat) : xL E u ++ rmL E v = wlF E u v := rfl
set_option maxRecDepth 100000 in
theorem wl_0 (E0 : QE) (u v : Nat → Nat) : (wlF E0 u v)[gP 0]? = some (eA (fE E0 u v) 0, cO (fE E0 u v) S0 (dsA 0)) := by
  rfl
theorem wl_1 (E0 : QE) (u v : Nat → Nat) : (wlF E0 u v)[gP 1]? = some (eA (fE E0 u v) 1, cO (fE E0 u v) S0 (dsA 1)) := by
  rfl
theorem wl_2 (E0 : QE) (u v : Nat → Nat) : (wlF E0 u v)[gP 2]? = some (eA (fE E0 u v) 2, cO (fE E0 u v) S0 (dsA 2)) := by
  have e : cO (fE E0 u v) S0 (dsA 2) = .inl (eC E0 0, 6, .inl (fun _ => 0)) := by
    show (Sum.inl (eC E0 0, 6, Sum.inl (ctn S0 (0, (4, 6)))) : va_E) = _
    rw [ctn_y (by decide) (fun j hj => by omega)]
  rw [e]
  rfl
theorem wl_3 (E0 : QE) (u v : Nat → Nat) : (wlF E0 u v)[gP 3]? = some (eA (fE E0 u v) 3, cO (fE E0 u v) S0 (dsA 3)) := by
  have e : (fun j => if j < 8 then some (u 8 + 1 + j) else none) = rfn (fE E0 u v) (2, [6, 7, 8, 9, 10, 11, 12, 13]) := by
    refine rf_8 (n := 8) (fun j hj => ?_) (fun j hj => ?_) (fun j hj => rfn_no hj)
    · rcases (show j = 0 ∨ j = 1 ∨ j = 2 ∨ j = 3 ∨ j = 4 ∨ j = 5 ∨ j = 6 ∨ j = 7 by omega) with rfl | rfl | rfl | rfl | rfl | rfl | rfl | rfl <;> rfl
    · show (if j < 8 then _ else _) = _
      rw [if_neg (by omega)]
  have e2 : cO (fE E0 u v) S0 (dsA 3) = .inl (eC E0 2, 8, .inr (.inr (.inr (.inr (fun j => if j < 8 then some (u 8 + 1 + j) else none))))) := by
    rw [e]
    rfl
  rw [e2]
  rfl
theorem wl_4 (E0 : QE) (u v : Nat → Nat) : (wlF E0 u v)[gP 4]? = some (eA (fE E0 u v) 4, cO (fE E0 u v) S0 (dsA 4)) := by
  have e : (fun j => if j < 6 then some (u 9 + 1 + j) else none) = rfn (fE E0 u v) (2, [14, 15, 16, 17, 18, 19]) := by
    refine rf_8 (n := 6) (fun j hj => ?_) (fun j hj => ?_) (fun j hj => rfn_no hj)
    · rcases (show j = 0 ∨ j = 1 ∨ j = 2 ∨ j = 3 ∨ j = 4 ∨ j = 5 by omega) with rfl | rfl | rfl | rfl | rfl | rfl <;> rfl
    · show (if j < 6 then _ else _) = _
      rw [if_neg (by omega)]
  have e2 : cO (fE E0 u v) S0 (dsA 4) = .inl (eC E0 2, 6, .inr (.inr (.inr (.inr (fun j => if j < 6 then some (u 9 + 1 + j) else none))))) := by
    rw [e]
    rfl
  rw [e2]
  rfl
theorem wl_5 (E0 : QE) (u v : Nat → Nat) : (wlF E0 u v)[gP 5]? = some (eA (fE E0 u v) 5, cO (fE E0 u v) S0 (dsA 5)) := by
  have e : cO (fE E0 u v) S0 (dsA 5) = .inl (eC E0 0, 10, .inl (fun j => if j < 10 then (-1) else 0)) := by
    show (Sum.inl (eC E0 0, 10, Sum.inl (ctn S0 (0, (10, 10)))) : va_E) = _
    rw [ctn_s (by decide)]
  rw [e]
  rfl
theorem wl_6 (E0 : QE) (u v : Nat → Nat) : (wlF E0 u v)[gP 6]? = some (eA (fE E0 u v) 6, cO (fE E0 u v) S0 (dsA 6)) := by
  have e : cO (fE E0 u v) S0 (dsA 6) = .inl (eC E0 0, 3, .inl (fun _ => 0)) := by
    show (Sum.inl (eC E0 0, 3, Sum.inl (ctn S0 (0, (20, 3)))) : va_E) = _
    rw [ctn_y (by decide) (fun j hj => by omega)]
  rw [e]
  rfl
theorem wl_7 (E0 : QE) (u v : Nat → Nat) : (wlF E0 u v)[gP 7]? = some (eA (fE E0 u v) 7, cO (fE E0 u v) S0 (dsA 7)) := by
  have e : cO (fE E0 u v) S0 (dsA 7) = .inl (eC E0 0, 3, .inl (fun _ => 0)) := by
    show (Sum.inl (eC E0 0, 3, Sum.inl (ctn S0 (0, (23, 3)))) : va_E) = _
    rw [ctn_y (by decide) (fun j hj => by omega)]
  rw [e]
  rfl
theorem wl_8 (E0 : QE) (u v : Nat → Nat) : (wlF E0 u v)[gP 8]? = some (eA (fE E0 u v) 8, cO (fE E0 u v) S0 (dsA 8)) := by
  have e : cO (fE E0 u v) S0 (dsA 8) = .inl (eC E0 0, 3, .inl (fun _ => 0)) := by
    show (Sum.inl (eC E0 0, 3, Sum.inl (ctn S0 (0, (26, 3)))) : va_E) = _
    rw [ctn_y (by decide) (fun j hj => by omega)]
  rw [e]
  rfl
theorem wl_9 (E0 : QE) (u v : Nat → Nat) : (wlF E0 u v)[gP 9]? = some (eA (fE E0 u v) 9, cO (fE E0 u v) S0 (dsA 9)) := by
  have e : cO (fE E0 u v) S0 (dsA 9) = .inl (eC E0 0, 3, .inl (fun _ => 0)) := by
    show (Sum.inl (eC E0 0, 3, Sum.inl (ctn S0 (0, (29, 3)))) : va_E) = _
    rw [ctn_y (by decide) (fun j hj => by omega)]
  rw [e]
  rfl
theorem wl_10 (E0 : QE) (u v : Nat → Nat) : (wlF E0 u v)[gP 10]? = some (eA (fE E0 u v) 10, cO (fE E0 u v) S0 (dsA 10)) := by
  have e : cO (fE E0 u v) S0 (dsA 10) = .inl (eC E0 0, 3, .inl (fun _ => 0)) := by
    show (Sum.inl (eC E0 0, 3, Sum.inl (ctn S0 (0, (32, 3)))) : va_E) = _
    rw [ctn_y (by decide) (fun j hj => by omega)]
  rw [e]
  rfl
theorem wl_11 (E0 : QE) (u v : Nat → Nat) : (wlF E0 u v)[gP 11]? = some (eA (fE E0 u v) 11, cO (fE E0 u v) S0 (dsA 11)) := by
  have e : cO (fE E0 u v) S0 (dsA 11) = .inl (eC E0 0, 3, .inl (fun _ => 0)) := by
    show (Sum.inl (eC E0 0, 3, Sum.inl (ctn S0 (0, (35, 3)))) : va_E) = _
    rw [ctn_y (by decide) (fun j hj => by omega)]
  rw [e]
  rfl
theorem wl_12 (E0 : QE) (u v : Nat → Nat) : (wlF E0 u v)[gP 12]? = some (eA (fE E0 u v) 12, cO (fE E0 u v) S0 (dsA 12)) := by
  have e : cO (fE E0 u v) S0 (dsA 12) = .inl (eC E0 0, 3, .inl (fun _ => 0)) := by
    show (Sum.inl (eC E0 0, 3, Sum.inl (ctn S0 (0, (38, 3)))) : va_E) = _
    rw [ctn_y (by decide) (fun j hj => by omega)]
  rw [e]
  rfl
theorem wl_13 (E0 : QE) (u v : Nat → Nat) : (wlF E0 u v)[gP 13]? = some (eA (fE E0 u v) 13, cO (fE E0 u v) S0 (dsA 13)) := by
  have e : cO (fE E0 u v) S0 (dsA 13) = .inl (eC E0 0, 3, .inl (fun _ => 0)) := by
    show (Sum.inl (eC E0 0, 3, Sum.inl (ctn S0 (0, (41, 3)))) : va_E) = _
    rw [ctn_y (by decide) (fun j hj => by omega)]
  rw [e]
  rfl
theorem wl_14 (E0 : QE) (u v : Nat → Nat) : (wlF E0 u v)[gP 14]? = some (eA (fE E0 u v) 14, cO (fE E0 u v) S0 (dsA 14)) := by
  have e : cO (fE E0 u v) S0 (dsA 14) = .inl (eC E0 0, 6, .inl (fun _ => 0)) := by
    show (Sum.inl (eC E0 0, 6, Sum.inl (ctn S0 (0, (44, 6)))) : va_E) = _
    rw [ctn_y (by decide) (fun j hj => by omega)]
  rw [e]
  rfl
theorem wl_15 (E0 : QE) (u v : Nat → Nat) : (wlF E0 u v)[gP 15]? = some (eA (fE E0 u v) 15, cO (fE E0 u v) S0 (dsA 15)) := by
  have e : cO (fE E0 u v) S0 (dsA 15) = .inl (eC E0 0, 6, .inl (fun _ => 0)) := by
    show (Sum.inl (eC E0 0, 6, Sum.inl (ctn S0 (0, (50, 6)))) : va_E) = _
    rw [ctn_y (by decide) (fun j hj => by omega)]
  rw [e]
  rfl
theorem wl_16 (E0 : QE) (u v : Nat → Nat) : (wlF E0 u v)[gP 16]? = some (eA (fE E0 u v) 16, cO (fE E0 u v) S0 (dsA 16)) := by
  have e : cO (fE E0 u v) S0 (dsA 16) = .inl (eC E0 0, 6, .inl (fun _ => 0)) := by
    show (Sum.inl (eC E0 0, 6, Sum.inl (ctn S0 (0, (56, 6)))) : va_E) = _
    rw [ctn_y (by decide) (fun j hj => by omega)]
  rw [e]
  rfl
theorem wl_17 (E0 : QE) (u v : Nat → Nat) : (wlF E0 u v)[gP 17]? = some (eA (fE E0 u v) 17, cO (fE E0 u v) S0 (dsA 17)) := by
  have e : cO (fE E0 u v) S0 (dsA 17) = .inl (eC E0 0, 6, .inl (fun _ => 0)) := by
    show (Sum.inl (eC E0 0, 6, Sum.inl (ctn S0 (0, (62, 6)))) : va_E) = _
    rw [ctn_y (by decide) (fun j hj => by omega)]
  rw [e]
  rfl
theorem wl_18 (E0 : QE) (u v : Nat → Nat) : (wlF E0 u v)[gP 18]? = some (eA (fE E0 u v) 18, cO (fE E0 u v) S0 (dsA 18)) := by
  have e : cO (fE E0 u v) S0 (dsA 18) = .inl (eC E0 0, 6, .inl (fun _ => 0)) := by
    show (Sum.inl (eC E0 0, 6, Sum.inl (ctn S0 (0, (68, 6)))) : va_E) = _
    rw [ctn_y (by decide) (fun j hj => by omega)]
  rw [e]
  rfl
theorem wl_19 (E0 : QE) (u v : Nat → Nat) : (wlF E0 u v)[gP 19]? = some (eA (fE E0 u v) 19, cO (fE E0 u v) S0 (dsA 19)) := by
  have e : cO (fE E0 u v) S0 (dsA 19) = .inl (eC E0 0, 6, .inl (fun _ => 0)) := by
    show (Sum.inl (eC E0 0, 6, Sum.inl (ctn S0 (0, (74, 6)))) : va_E) = _
    rw [ctn_y (by decide) (fun j hj => by omega)]
  rw [e]
  rfl
theorem wl_20 (E0 : QE) (u v : Nat → Nat) : (wlF E0 u v)[gP 20]? = some (eA (fE E0 u v) 20, cO (fE E0 u v) S0 (dsA 20)) := by
  rfl
theorem wl_21 (E0 : QE) (u v : Nat → Nat) : (wlF E0 u v)[gP 21]? = some (eA (fE E0 u v) 21, cO (fE E0 u v) S0 (dsA 21)) := by
  have e : cO (fE E0 u v) S0 (dsA 21) = .inl (eC E0 0, 6, .inl (fun _ => 0)) := by
    show (Sum.inl (eC E0 0, 6, Sum.inl (ctn S0 (1, (4, 6)))) : va_E) = _
    rw [ctn_y (by decide) (fun j hj => by omega)]
  rw [e]
  rfl
theorem wl_22 (E0 : QE) (u v : Nat → Nat) : (wlF E0 u v)[gP 22]? = some (eA (fE E0 u v) 22, cO (fE E0 u v) S0 (dsA 22)) := by
  have e : (fun j => if j < 8 then some (u 12 + 1 + j) else none) = rfn (fE E0 u v) (2, [25, 26, 27, 28, 29, 30, 31, 32]) := by
    refine rf_8 (n := 8) (fun j hj => ?_) (fun j hj => ?_) (fun j hj => rfn_no hj)
    · rcases (show j = 0 ∨ j = 1 ∨ j = 2 ∨ j = 3 ∨ j = 4 ∨ j = 5 ∨ j = 6 ∨ j = 7 by omega) with rfl | rfl | rfl | rfl | rfl | rfl | rfl | rfl <;> rfl
    · show (if j < 8 then _ else _) = _
      rw [if_neg (by omega)]
  have e2 : cO (fE E0 u v) S0 (dsA 22) = .inl (eC E0 2, 8, .inr (.inr (.inr (.inr (fun j => if j < 8 then some (u 12 + 1 + j) else none))))) := by
    rw [e]
    rfl
  rw [e2]
  rfl
theorem wl_23 (E0 : QE) (u v : Nat → Nat) : (wlF E0 u v)[gP 23]? = some (eA (fE E0 u v) 23, cO (fE E0 u v) S0 (dsA 23)) := by
  have e : (fun j => if j < 6 then some (u 13 + 1 + j) else none) = rfn (fE E0 u v) (2, [33, 34, 35, 36, 37, 38]) := by
    refine rf_8 (n := 6) (fun j hj => ?_) (fun j hj => ?_) (fun j hj => rfn_no hj)
    · rcases (show j = 0 ∨ j = 1 ∨ j = 2 ∨ j = 3 ∨ j = 4 ∨ j = 5 by omega) with rfl | rfl | rfl | rfl | rfl | rfl <;> rfl
    · show (if j < 6 then _ else _) = _
      rw [if_neg (by omega)]
  have e2 : cO (fE E0 u v) S0 (dsA 23) = .inl (eC E0 2, 6, .inr (.inr (.inr (.inr (fun j => if j < 6 then some (u 13 + 1 + j) else none))))) := by
    rw [e]
    rfl
  rw [e2]
  rfl
theorem wl_24 (E0 : QE) (u v : Nat → Nat) : (wlF E0 u v)[gP 24]? = some (eA (fE E0 u v) 24, cO (fE E0 u v) S0 (dsA 24)) := by
  have e : cO (fE E0 u v) S0 (dsA 24) = .inl (eC E0 0, 10, .inl (fun j => if j < 10 then (-1) else 0)) := by
    show (Sum.inl (eC E0 0, 10, Sum.inl (ctn S0 (1, (10, 10)))) : va_E) = _
    rw [ctn_s (by decide)]
  rw [e]
  rfl
theorem wl_25 (E0 : QE) (u v : Nat → Nat) : (wlF E0 u v)[gP 25]? = some (eA (fE E0 u v) 25, cO (fE E0 u v) S0 (dsA 25)) := by
  have e : cO (fE E0 u v) S0 (dsA 25) = .inl (eC E0 0, 3, .inl (fun _ => 0)) := by
    show (Sum.inl (eC E0 0, 3, Sum.inl (ctn S0 (1, (20, 3)))) : va_E) = _
    rw [ctn_y (by decide) (fun j hj => by omega)]
  rw [e]
  rfl
theorem wl_26 (E0 : QE) (u v : Nat → Nat) : (wlF E0 u v)[gP 26]? = some (eA (fE E0 u v) 26, cO (fE E0 u v) S0 (dsA 26)) := by
  have e : cO (fE E0 u v) S0 (dsA 26) = .inl (eC E0 0, 3, .inl (fun _ => 0)) := by
    show (Sum.inl (eC E0 0, 3, Sum.inl (ctn S0 (1, (23, 3)))) : va_E) = _
    rw [ctn_y (by decide) (fun j hj => by omega)]
  rw [e]
  rfl
theorem wl_27 (E0 : QE) (u v : Nat → Nat) : (wlF E0 u v)[gP 27]? = some (eA (fE E0 u v) 27, cO (fE E0 u v) S0 (dsA 27)) := by
  have e : cO (fE E0 u v) S0 (dsA 27) = .inl (eC E0 0, 3, .inl (fun _ => 0)) := by
    show (Sum.inl (eC E0 0, 3, Sum.inl (ctn S0 (1, (26, 3)))) : va_E) = _
    rw [ctn_y (by decide) (fun j hj => by omega)]
  rw [e]
  rfl
theorem wl_28 (E0 : QE) (u v : Nat → Nat) : (wlF E0 u v)[gP 28]? = some (eA (fE E0 u v) 28, cO (fE E0 u v) S0 (dsA 28)) := by
  have e : cO (fE E0 u v) S0 (dsA 28) = .inl (eC E0 0, 3, .inl (fun _ => 0)) := by
    show (Sum.inl (eC E0 0, 3, Sum.inl (ctn S0 (1, (29, 3)))) : va_E) = _
    rw [ctn_y (by decide) (fun j hj => by omega)]
  rw [e]
  rfl
theorem wl_29 (E0 : QE) (u v : Nat → Nat) : (wlF E0 u v)[gP 29]? = some (eA (fE E0 u v) 29, cO (fE E0 u v) S0 (dsA 29)) := by
  have e : cO (fE E0 u v) S0 (dsA 29) = .inl (eC E0 0, 3, .inl (fun _ => 0)) := by
    show (Sum.inl (eC E0 0, 3, Sum.inl (ctn S0 (1, (32, 3)))) : va_E) = _
    rw [ctn_y (by decide) (fun j hj => by omega)]
  rw [e]
  rfl
theorem wl_30 (E0 : QE) (u v : Nat → Nat) : (wlF E0 u v)[gP 30]? = some (eA (fE E0 u v) 30, cO (fE E0 u v) S0 (dsA 30)) := by
  have e : cO (fE E0 u v) S0 (dsA 30) = .inl (eC E0 0, 3, .inl (fun _ => 0)) := by
    show (Sum.inl (eC E0 0, 3, Sum.inl (ctn S0 (1, (35, 3)))) : va_E) = _
    rw [ctn_y (by decide) (fun j hj => by omega)]
  rw [e]
  rfl
theorem wl_31 (E0 : QE) (u v : Nat → Nat) : (wlF E0 u v)[gP 31]? = some (eA (fE E0 u v) 31, cO (fE E0 u v) S0 (dsA 31)) := by
  have e : cO (fE E0 u v) S0 (dsA 31) = .inl (eC E0 0, 3, .inl (fun _ => 0)) := by
    show (Sum.inl (eC E0 0, 3, Sum.inl (ctn S0 (1, (38, 3)))) : va_E) = _
    rw [ctn_y (by decide) (fun j hj => by omega)]
  rw [e]
  rfl
theorem wl_32 (E0 : QE) (u v : Nat → Nat) : (wlF E0 u v)[gP 32]? = some (eA (fE E0 u v) 32, cO (fE E0 u v) S0 (dsA 32)) := by
  have e : cO (fE E0 u v) S0 (dsA 32) = .inl (eC E0 0, 3, .inl (fun _ => 0)) := by
    show (Sum.inl (eC E0 0, 3, Sum.inl (ctn S0 (1, (41, 3)))) : va_E) = _
    rw [ctn_y (by decide) (fun j hj => by omega)]
  rw [e]
  rfl
theorem wl_33 (E0 : QE) (u v : Nat → Nat) : (wlF E0 u v)[gP 33]? = some (eA (fE E0 u v) 33, cO (fE E0 u v) S0 (dsA 33)) := by
  have e : cO (fE E0 u v) S0 (dsA 33) = .inl (eC E0 0, 6, .inl (fun _ => 0)) := by
    show (Sum.inl (eC E0 0, 6, Sum.inl (ctn S0 (1, (44, 6)))) : va_E) = _
    rw [ctn_y (by decide) (fun j hj => by omega)]
  rw [e]
  rfl
theorem wl_34 (E0 : QE) (u v : Nat → Nat) : (wlF E0 u v)[gP 34]? = some (eA (fE E0 u v) 34, cO (fE E0 u v) S0 (dsA 34)) := by
  have e : cO (fE E0 u v) S0 (dsA 34) = .inl (eC E0 0, 6, .inl (fun _ => 0)) := by
    show (Sum.inl (eC E0 0, 6, Sum.inl (ctn S0 (1, (50, 6)))) : va_E) = _
    rw [ctn_y (by decide) (fun j hj => by omega)]
  rw [e]
  rfl
theorem wl_35 (E0 : QE) (u v : Nat → Nat) : (wlF E0 u v)[gP 35]? = some (eA (fE E0 u v) 35, cO (fE E0 u v) S0 (dsA 35)) := by
  have e : cO (fE E0 u v) S0 (dsA 35) = .inl (eC E0 0, 6, .inl (fun _ => 0)) := by
    show (Sum.inl (eC E0 0, 6, Sum.inl (ctn S0 (1, (56, 6)))) : va_E) = _
    rw [ctn_y (by decide) (fun j hj => by omega)]
  rw [e]
  rfl
theorem wl_36 (E0 : QE) (u v : Nat → Nat) : (wlF E0 u v)[gP 36]? = some (eA (fE E0 u v) 36, cO (fE E0 u v) S0 (dsA 36)) := by
  have e : cO (fE E0 u v) S0 (dsA 36) = .inl (eC E0 0, 6, .inl (fun _ => 0)) := by
    show (Sum.inl (eC E0 0, 6, Sum.inl (ctn S0 (1, (62, 6)))) : va_E) = _
    rw [ctn_y (by decide) (fun j hj => by omega)]
  rw [e]
  rfl
theorem wl_37 (E0 : QE) (u v : Nat → Nat) : (wlF E0 u v)[gP 37]? = some (eA (fE E0 u v) 37, cO (fE E0 u v) S0 (dsA 37)) := by
  have e : cO (fE E0 u v) S0 (dsA 37) = .inl (eC E0 0, 6, .inl (fun _ => 0)) := by
    show (Sum.inl (eC E0 0, 6, Sum.inl (ctn S0 (1, (68, 6)))) : va_E) = _
    rw [ctn_y (by decide) (fun j hj => by omega)]
  rw [e]
  rfl
theorem wl_38 (E0 : QE) (u v : Nat → Nat) : (wlF E0 u v)[gP 38]? = some (eA (fE E0 u v) 38, cO (fE E0 u v) S0 (dsA 38)) := by
  have e : cO (fE E0 u v) S0 (dsA 38) = .inl (eC E0 0, 6, .inl (fun _ => 0)) := by
    show (Sum.inl (eC E0 0, 6, Sum.inl (ctn S0 (1, (74, 6)))) : va_E) = _
    rw [ctn_y (by decide) (fun j hj => by omega)]
  rw [e]
  rfl
theorem wl_39 (E0 : QE) (u v : Nat → Nat) : (wlF E0 u v)[gP 39]? = some (eA (fE E0 u v) 39, cO (fE E0 u v) S0 (dsA 39)) := by
  rfl
theorem wl_40 (E0 : QE) (u v : Nat → Nat) : (wlF E0 u v)[gP 40]? = some (eA (fE E0 u v) 40, cO (fE E0 u v) S0 (dsA 40)) := by
  have e : cO (fE E0 u v) S0 (dsA 40) = .inl (eC E0 0, 6, .inl (fun _ => 0)) := by
    show (Sum.inl (eC E0 0, 6, Sum.inl (ctn S0 (2, (4, 6)))) : va_E) = _
    rw [ctn_y (by decide) (fun j hj => by omega)]
  rw [e]
  rfl
theorem wl_41 (E0 : QE) (u v : Nat → Nat) : (wlF E0 u v)[gP 41]? = some (eA (fE E0 u v) 41, cO (fE E0 u v) S0 (dsA 41)) := by
  have e : (fun j => if j < 8 then some (u 16 + 1 + j) else none) = rfn (fE E0 u v) (2, [44, 45, 46, 47, 48, 49, 50, 51]) := by
    refine rf_8 (n := 8) (fun j hj => ?_) (fun j hj => ?_) (fun j hj => rfn_no hj)
    · rcases (show j = 0 ∨ j = 1 ∨ j = 2 ∨ j = 3 ∨ j = 4 ∨ j = 5 ∨ j = 6 ∨ j = 7 by omega) with rfl | rfl | rfl | rfl | rfl | rfl | rfl | rfl <;> rfl
    · show (if j < 8 then _ else _) = _
      rw [if_neg (by omega)]
  have e2 : cO (fE E0 u v) S0 (dsA 41) = .inl (eC E0 2, 8, .inr (.inr (.inr (.inr (fun j => if j < 8 then some (u 16 + 1 + j) else none))))) := by
    rw [e]
    rfl
  rw [e2]
  rfl
theorem wl_42 (E0 : QE) (u v : Nat → Nat) : (wlF E0 u v)[gP 42]? = some (eA (fE E0 u v) 42, cO (fE E0 u v) S0 (dsA 42)) := by
  have e : (fun j => if j < 6 then some (u 17 + 1 + j) else none) = rfn (fE E0 u v) (2, [52, 53, 54, 55, 56, 57]) := by
    refine rf_8 (n := 6) (fun j hj => ?_) (fun j hj => ?_) (fun j hj => rfn_no hj)
    · rcases (show j = 0 ∨ j = 1 ∨ j = 2 ∨ j = 3 ∨ j = 4 ∨ j = 5 by omega) with rfl | rfl | rfl | rfl | rfl | rfl <;> rfl
    · show (if j < 6 then _ else _) = _
      rw [if_neg (by omega)]
  have e2 : cO (fE E0 u v) S0 (dsA 42) = .inl (eC E0 2, 6, .inr (.inr (.inr (.inr (fun j => if j < 6 then some (u 17 + 1 + j) else none))))) := by
    rw [e]
    rfl
  rw [e2]
  rfl
theorem wl_43 (E0 : QE) (u v : Nat → Nat) : (wlF E0 u v)[gP 43]? = some (eA (fE E0 u v) 43, cO (fE E0 u v) S0 (dsA 43)) := by
  have e : cO (fE E0 u v) S0 (dsA 43) = .inl (eC E0 0, 10, .inl (fun j => if j < 10 then (-1) else 0)) := by
    show (Sum.inl (eC E0 0, 10, Sum.inl (ctn S0 (2, (10, 10)))) : va_E) = _
    rw [ctn_s (by decide)]
  rw [e]
  rfl
theorem wl_44 (E0 : QE) (u v : Nat → Nat) : (wlF E0 u v)[gP 44]? = some (eA (fE E0 u v) 44, cO (fE E0 u v) S0 (dsA 44)) := by
  have e : cO (fE E0 u v) S0 (dsA 44) = .inl (eC E0 0, 3, .inl (fun _ => 0)) := by
    show (Sum.inl (eC E0 0, 3, Sum.inl (ctn S0 (2, (20, 3)))) : va_E) = _
    rw [ctn_y (by decide) (fun j hj => by omega)]
  rw [e]
  rfl
theorem wl_45 (E0 : QE) (u v : Nat → Nat) : (wlF E0 u v)[gP 45]? = some (eA (fE E0 u v) 45, cO (fE E0 u v) S0 (dsA 45)) := by
  have e : cO (fE E0 u v) S0 (dsA 45) = .inl (eC E0 0, 3, .inl (fun _ => 0)) := by
    show (Sum.inl (eC E0 0, 3, Sum.inl (ctn S0 (2, (23, 3)))) : va_E) = _
    rw [ctn_y (by decide) (fun j hj => by omega)]
  rw [e]
  rfl
theorem wl_46 (E0 : QE) (u v : Nat → Nat) : (wlF E0 u v)[gP 46]? = some (eA (fE E0 u v) 46, cO (fE E0 u v) S0 (dsA 46)) := by
  have e : cO (fE E0 u v) S0 (dsA 46) = .inl (eC E0 0, 3, .inl (fun _ => 0)) := by
    show (Sum.inl (eC E0 0, 3, Sum.inl (ctn S0 (2, (26, 3)))) : va_E) = _
    rw [ctn_y (by decide) (fun j hj => by omega)]
  rw [e]
  rfl
theorem wl_47 (E0 : QE) (u v : Nat → Nat) : (wlF E0 u v)[gP 47]? = some (eA (fE E0 u v) 47, cO (fE E0 u v) S0 (dsA 47)) := by
  have e : cO (fE E0 u v) S0 (dsA 47) = .inl (eC E0 0, 3, .inl (fun _ => 0)) := by
    show (Sum.inl (eC E0 0, 3, Sum.inl (ctn S0 (2, (29, 3)))) : va_E) = _
    rw [ctn_y (by decide) (fun j hj => by omega)]
  rw [e]
  rfl
theorem wl_48 (E0 : QE) (u v : Nat → Nat) : (wlF E0 u v)[gP 48]? = some (eA (fE E0 u v) 48, cO (fE E0 u v) S0 (dsA 48)) := by
  have e : cO (fE E0 u v) S0 (dsA 48) = .inl (eC E0 0, 3, .inl (fun _ => 0)) := by
    show (Sum.inl (eC E0 0, 3, Sum.inl (ctn S0 (2, (32, 3)))) : va_E) = _
    rw [ctn_y (by decide) (fun j hj => by omega)]
  rw [e]
  rfl
theorem wl_49 (E0 : QE) (u v : Nat → Nat) : (wlF E0 u v)[gP 49]? = some (eA (fE E0 u v) 49, cO (fE E0 u v) S0 (dsA 49)) := by
  have e : cO (fE E0 u v) S0 (dsA 49) = .inl (eC E0 0, 3, .inl (fun _ => 0)) := by
    show (Sum.inl (eC E0 0, 3, Sum.inl (ctn S0 (2, (35, 3)))) : va_E) = _
    rw [ctn_y (by decide) (fun j hj => by omega)]
  rw [e]
  rfl
theorem wl_50 (E0 : QE) (u v : Nat → Nat) : (wlF E0 u v)[gP 50]? = some (eA (fE E0 u v) 50, cO (fE E0 u v) S0 (dsA 50)) := by
  have e : cO (fE E0 u v) S0 (dsA 50) = .inl (eC E0 0, 3, .inl (fun _ => 0)) := by
    show (Sum.inl (eC E0 0, 3, Sum.inl (ctn S0 (2, (38, 3)))) : va_E) = _
    rw [ctn_y (by decide) (fun j hj => by omega)]
  rw [e]
  rfl
theorem wl_51 (E0 : QE) (u v : Nat → Nat) : (wlF E0 u v)[gP 51]? = some (eA (fE E0 u v) 51, cO (fE E0 u v) S0 (dsA 51)) := by
  have e : cO (fE E0 u v) S0 (dsA 51) = .inl (eC E0 0, 3, .inl (fun _ => 0)) := by
    show (Sum.inl (eC E0 0, 3, Sum.inl (ctn S0 (2, (41, 3)))) : va_E) = _
    rw [ctn_y (by decide) (fun j hj => by omega)]
  rw [e]
  rfl
theorem wl_52 (E0 : QE) (u v : Nat → Nat) : (wlF E0 u v)[gP 52]? = some (eA (fE E0 u v) 52, cO (fE E0 u v) S0 (dsA 52)) := by
  have e : cO (fE E0 u v) S0 (dsA 52) = .inl (eC E0 0, 6, .inl (fun _ => 0)) := by
    show (Sum.inl (eC E0 0, 6, Sum.inl (ctn S0 (2, (44, 6)))) : va_E) = _
    rw [ctn_y (by decide) (fun j hj => by omega)]
  rw [e]
  rfl
theorem wl_53 (E0 : QE) (u v : Nat → Nat) : (wlF E0 u v)[gP 53]? = some (eA (fE E0 u v) 53, cO (fE E0 u v) S0 (dsA 53)) := by
  have e : cO (fE E0 u v) S0 (dsA 53) = .inl (eC E0 0, 6, .inl (fun _ => 0)) := by
    show (Sum.inl (eC E0 0, 6, Sum.inl (ctn S0 (2, (50, 6)))) : va_E) = _
    rw [ctn_y (by decide) (fun j hj => by omega)]
  rw [e]
  rfl
theorem wl_54 (E0 : QE) (u v : Nat → Nat) : (wlF E0 u v)[gP 54]? = some (eA (fE E0 u v) 54, cO (fE E0 u v) S0 (dsA 54)) := by
  have e : cO (fE E0 u v) S0 (dsA 54) = .inl (eC E0 0, 6, .inl (fun _ => 0)) := by
    show (Sum.inl (eC E0 0, 6, Sum.inl (ctn S0 (2, (56, 6)))) : va_E) = _
    rw [ctn_y (by decide) (fun j hj => by omega)]
  rw [e]
  rfl
theorem wl_55 (E0 : QE) (u v : Nat → Nat) : (wlF E0 u v)[gP 55]? = some (eA (fE E0 u v) 55, cO (fE E0 u v) S0 (dsA 55)) := by
  have e : cO (fE E0 u v) S0 (dsA 55) = .inl (eC E0 0, 6, .inl (fun _ => 0)) := by
    show (Sum.inl (eC E0 0, 6, Sum.inl (ctn S0 (2, (62, 6)))) : va_E) = _
    rw [ctn_y (by decide) (fun j hj => by omega)]
  rw [e]
  rfl
theorem wl_56 (E0 : QE) (u v : Nat → Nat) : (wlF E0 u v)[gP 56]? = some (eA (fE E0 u v) 56, cO (fE E0 u v) S0 (dsA 56)) := by
  have e : cO (fE E0 u v) S0 (dsA 56) = .inl (eC E0 0, 6, .inl (fun _ => 0)) := by
    show (Sum.inl (eC E0 0, 6, Sum.inl (ctn S0 (2, (68, 6)))) : va_E) = _
    rw [ctn_y (by decide) (fun j hj => by omega)]
  rw [e]
  rfl
theorem wl_57 (E0 : QE) (u v : Nat → Nat) : (wlF E0 u v)[gP 57]? = some (eA (fE E0 u v) 57, cO (fE E0 u v) S0 (dsA 57)) := by
  have e : cO (fE E0 u v) S0 (dsA 57) = .inl (eC E0 0, 6, .inl (fun _ => 0)) := by
    show (Sum.inl (eC E0 0, 6, Sum.inl (ctn S0 (2, (74, 6)))) : va_E) = _
    rw [ctn_y (by decide) (fun j hj => by omega)]
  rw [e]
  rfl
theorem wl_58 (E0 : QE) (u v : Nat → Nat) : (wlF E0 u v)[gP 58]? = some (eA (fE E0 u v) 58, cO (fE E0 u v) S0 (dsA 58)) := by
  rfl
theorem wl_59 (E0 : QE) (u v : Nat → Nat) : (wlF E0 u v)[gP 59]? = some (eA (fE E0 u v) 59, cO (fE E0 u v) S0 (dsA 59)) := by
  have e : cO (fE E0 u v) S0 (dsA 59) = .inl (eC E0 0, 120, .inl (fun _ => 0)) := by
    show (Sum.inl (eC E0 0, 120, Sum.inl (ctn S0 (5, (0, 120)))) : va_E) = _
    rw [ctn_z (by decide)]
  rw [e]
  rfl
theorem wl_60 (E0 : QE) (u v : Nat → Nat) : (wlF E0 u v)[gP 60]? = some (eA (fE E0 u v) 60, cO (fE E0 u v) S0 (dsA 60)) := by
  have e : (va_up (va_up (va_up (va_up (fun _ => none) 0 (some (u 20))) 1 (some (u 21))) 2 (some (u 22))) 3 (some (u 23))) = rfn (fE E0 u v) (1, [61, 62, 63, 64]) := by
    refine rf_8 (n := 4) (fun j hj => ?_) (fun j hj => ?_) (fun j hj => rfn_no hj)
    · rcases (show j = 0 ∨ j = 1 ∨ j = 2 ∨ j = 3 by omega) with rfl | rfl | rfl | rfl <;> rfl
    · unfold va_up
      rw [if_neg (by omega), if_neg (by omega), if_neg (by omega), if_neg (by omega)]
  have e2 : cO (fE E0 u v) S0 (dsA 60) = .inl (eC E0 1, 4, .inr (.inr (.inr (.inr (va_up (va_up (va_up (va_up (fun _ => none) 0 (some (u 20))) 1 (some (u 21))) 2 (some (u 22))) 3 (some (u 23))))))) := by
    rw [e]
    rfl
  rw [e2]
  rfl
theorem wl_61 (E0 : QE) (u v : Nat → Nat) : (wlF E0 u v)[gP 61]? = some (eA (fE E0 u v) 61, cO (fE E0 u v) S0 (dsA 61)) := by
  rfl
theorem wl_62 (E0 : QE) (u v : Nat → Nat) : (wlF E0 u v)[gP 62]? = some (eA (fE E0 u v) 62, cO (fE E0 u v) S0 (dsA 62)) := by
  rfl
theorem wl_63 (E0 : QE) (u v : Nat → Nat) : (wlF E0 u v)[gP 63]? = some (eA (fE E0 u v) 63, cO (fE E0 u v) S0 (dsA 63)) := by
  rfl
theorem wl_64 (E0 : QE) (u v : Nat → Nat) : (wlF E0 u v)[gP 64]? = some (eA (fE E0 u v) 64, cO (fE E0 u v) S0 (dsA 64)) := by
  rfl
theorem wl_65 (E0 : QE) (u v : Nat → Nat) : (wlF E0 u v)[gP 65]? = some (eA (fE E0 u v) 65, cO (fE E0 u v) S0 (dsA 65)) := by
  have e : cO (fE E0 u v) S0 (dsA 65) = .inl (eC E0 0, 40, .inl (fun _ => 0)) := by
    show (Sum.inl (eC E0 0, 40, Sum.inl (ctn S0 (10, (0, 40)))) : va_E) = _
    rw [ctn_z (by decide)]
  rw [e]
  rfl
theorem wl_66 (E0 : QE) (u v : Nat → Nat) : (wlF E0 u v)[gP 66]? = some (eA (fE E0 u v) 66, cO (fE E0 u v) S0 (dsA 66)) := by
  have e : cO (fE E0 u v) S0 (dsA 66) = .inl (eC E0 0, 40, .inl (fun _ => 0)) := by
    show (Sum.inl (eC E0 0, 40, Sum.inl (ctn S0 (11, (0, 40)))) : va_E) = _
    rw [ctn_z (by decide)]
  rw [e]
  rfl
theorem wl_67 (E0 : QE) (u v : Nat → Nat) : (wlF E0 u v)[gP 67]? = some (eA (fE E0 u v) 67, cO (fE E0 u v) S0 (dsA 67)) := by
  have e : cO (fE E0 u v) S0 (dsA 67) = .inl (eC E0 0, 40, .inl (fun _ => 0)) := by
    show (Sum.inl (eC E0 0, 40, Sum.inl (ctn S0 (12, (0, 40)))) : va_E) = _
    rw [ctn_z (by decide)]
  rw [e]
  rfl
theorem wl_68 (E0 : QE) (u v : Nat → Nat) : (wlF E0 u v)[gP 68]? = some (eA (fE E0 u v) 68, cO (fE E0 u v) S0 (dsA 68)) := by
  have e : cO (fE E0 u v) S0 (dsA 68) = .inl (eC E0 0, 40, .inl (fun _ => 0)) := by
    show (Sum.inl (eC E0 0, 40, Sum.inl (ctn S0 (13, (0, 40)))) : va_E) = _
    rw [ctn_z (by decide)]
  rw [e]
  rfl
theorem wl_69 (E0 : QE) (u v : Nat → Nat) : (wlF E0 u v)[gP 69]? = some (eA (fE E0 u v) 69, cO (fE E0 u v) S0 (dsA 69)) := by
  have e : cO (fE E0 u v) S0 (dsA 69) = .inl (eC E0 0, 7, .inl (fun _ => 0)) := by
    show (Sum.inl (eC E0 0, 7, Sum.inl (ctn S0 (14, (0, 7)))) : va_E) = _
    rw [ctn_z (by decide)]
  rw [e]
  rfl
theorem wl_70 (E0 : QE) (u v : Nat → Nat) : (wlF E0 u v)[gP 70]? = some (eA (fE E0 u v) 70, cO (fE E0 u v) S0 (dsA 70)) := by
  rfl
theorem wl_71 (E0 : QE) (u v : Nat → Nat) : (wlF E0 u v)[gP 71]? = some (eA (fE E0 u v) 71, cO (fE E0 u v) S0 (dsA 71)) := by
  have e : cO (fE E0 u v) S0 (dsA 71) = .inl (eC E0 0, 80, .inl (fun p => if p = 2 then nI 1 else if 10 ≤ p ∧ p < 20 then (-1) else 0)) := by
    show (Sum.inl (eC E0 0, 80, Sum.inl (ctn S0 (16, (0, 80)))) : va_E) = _
    rw [ctn_n]
  rw [e]
  rfl
theorem wl_72 (E0 : QE) (u v : Nat → Nat) : (wlF E0 u v)[gP 72]? = some (eA (fE E0 u v) 72, cO (fE E0 u v) S0 (dsA 72)) := by
  have e : cO (fE E0 u v) S0 (dsA 72) = .inl (eC E0 0, 80, .inl (fun _ => 0)) := by
    show (Sum.inl (eC E0 0, 80, Sum.inl (ctn S0 (17, (0, 80)))) : va_E) = _
    rw [ctn_z (by decide)]
  rw [e]
  rfl
theorem wl_73 (E0 : QE) (u v : Nat → Nat) : (wlF E0 u v)[gP 73]? = some (eA (fE E0 u v) 73, cO (fE E0 u v) S0 (dsA 73)) := by
  have e : cO (fE E0 u v) S0 (dsA 73) = .inl (eC E0 0, 80, .inl (fun _ => 0)) := by
    show (Sum.inl (eC E0 0, 80, Sum.inl (ctn S0 (18, (0, 80)))) : va_E) = _
    rw [ctn_z (by decide)]
  rw [e]
  rfl
theorem wl_74 (E0 : QE) (u v : Nat → Nat) : (wlF E0 u v)[gP 74]? = some (eA (fE E0 u v) 74, cO (fE E0 u v) S0 (dsA 74)) := by
  have e : cO (fE E0 u v) S0 (dsA 74) = .inl (eC E0 0, 8, .inl (fun _ => 0)) := by
    show (Sum.inl (eC E0 0, 8, Sum.inl (ctn S0 (19, (0, 8)))) : va_E) = _
    rw [ctn_z (by decide)]
  rw [e]
  rfl
theorem wl_75 (E0 : QE) (u v : Nat → Nat) : (wlF E0 u v)[gP 75]? = some (eA (fE E0 u v) 75, cO (fE E0 u v) S0 (dsA 75)) := by
  have e : cO (fE E0 u v) S0 (dsA 75) = .inl (eC E0 0, 120, .inl (fun _ => 0)) := by
    show (Sum.inl (eC E0 0, 120, Sum.inl (ctn S0 (20, (0, 120)))) : va_E) = _
    rw [ctn_z (by decide)]
  rw [e]
  rfl
theorem wl_76 (E0 : QE) (u v : Nat → Nat) : (wlF E0 u v)[gP 76]? = some (eA (fE E0 u v) 76, cO (fE E0 u v) S0 (dsA 76)) := by
  have e : (va_up (va_up (va_up (va_up (va_up (va_up (va_up (fun _ => none) 0 (some (eK E0 0))) 1 (some (eK E0 1))) 2 (some (eK E0 2))) 3 (some (eK E0 3))) 4 (some (eK E0 4))) 5 (some (eK E0 5))) 6 (some (eK E0 6))) = rfn (fE E0 u v) (3, [0, 1, 2, 3, 4, 5, 6]) := by
    refine rf_8 (n := 7) (fun j hj => ?_) (fun j hj => ?_) (fun j hj => rfn_no hj)
    · rcases (show j = 0 ∨ j = 1 ∨ j = 2 ∨ j = 3 ∨ j = 4 ∨ j = 5 ∨ j = 6 by omega) with rfl | rfl | rfl | rfl | rfl | rfl | rfl <;> rfl
    · unfold va_up
      rw [if_neg (by omega), if_neg (by omega), if_neg (by omega), if_neg (by omega), if_neg (by omega), if_neg (by omega), if_neg (by omega)]
  have e2 : cO (fE E0 u v) S0 (dsA 76) = .inl (eC E0 3, 7, .inr (.inr (.inr (.inr (va_up (va_up (va_up (va_up (va_up (va_up (va_up (fun _ => none) 0 (some (eK E0 0))) 1 (some (eK E0 1))) 2 (some (eK E0 2))) 3 (some (eK E0 3))) 4 (some (eK E0 4))) 5 (some (eK E0 5))) 6 (some (eK E0 6))))))) := by
    rw [e]
    rfl
  rw [e2]
  rfl
theorem wl_77 (E0 : QE) (u v : Nat → Nat) : (wlF E0 u v)[gP 77]? = some (eA (fE E0 u v) 77, cO (fE E0 u v) S0 (dsA 77)) := by
  have e : cO (fE E0 u v) S0 (dsA 77) = .inl (eC E0 0, 600, .inl (fun _ => 0)) := by
    show (Sum.inl (eC E0 0, 600, Sum.inl (ctn S0 (21, (0, 600)))) : va_E) = _
    rw [ctn_z (by decide)]
  rw [e]
  rfl
theorem wl_78 (E0 : QE) (u v : Nat → Nat) : (wlF E0 u v)[gP 78]? = some (eA (fE E0 u v) 78, cO (fE E0 u v) S0 (dsA 78)) := by
  have e : cO (fE E0 u v) S0 (dsA 78) = .inl (eC E0 0, 4, .inl (fun _ => 0)) := by
    show (Sum.inl (eC E0 0, 4, Sum.inl (ctn S0 (22, (0, 4)))) : va_E) = _
    rw [ctn_z (by decide)]
  rw [e]
  rfl
theorem wl_79 (E0 : QE) (u v : Nat → Nat) : (wlF E0 u v)[gP 79]? = some (eA (fE E0 u v) 79, cO (fE E0 u v) S0 (dsA 79)) := by
  have e : cO (fE E0 u v) S0 (dsA 79) = .inl (eC E0 0, 4, .inl (fun _ => 0)) := by
    show (Sum.inl (eC E0 0, 4, Sum.inl (ctn S0 (23, (0, 4)))) : va_E) = _
    rw [ctn_z (by decide)]
  rw [e]
  rfl
theorem wl_80 (E0 : QE) (u v : Nat → Nat) : (wlF E0 u v)[gP 80]? = some (eA (fE E0 u v) 80, cO (fE E0 u v) S0 (dsA 80)) := by
  have e : cO (fE E0 u v) S0 (dsA 80) = .inl (eC E0 0, 160, .inl (fun _ => 0)) := by
    show (Sum.inl (eC E0 0, 160, Sum.inl (ctn S0 (24, (0, 160)))) : va_E) = _
    rw [ctn_z (by decide)]
  rw [e]
  rfl
theorem wl_81 (E0 : QE) (u v : Nat → Nat) : (wlF E0 u v)[gP 81]? = some (eA (fE E0 u v) 81, cO (fE E0 u v) S0 (dsA 81)) := by
  have e : cO (fE E0 u v) S0 (dsA 81) = .inl (eC E0 0, 40, .inl (fun _ => 0)) := by
    show (Sum.inl (eC E0 0, 40, Sum.inl (ctn S0 (25, (0, 40)))) : va_E) = _
    rw [ctn_z (by decide)]
  rw [e]
  rfl
theorem wl_all (E0 : QE) (u v : Nat → Nat) : ∀ k, k < 82 → (wlF E0 u v)[gP k]? = some (eA (fE E0 u v) k, cO (fE E0 u v) S0 (dsA k)) := by
  intro k hk
  rcases Nat.lt_succ_iff_lt_or_eq.mp hk with hk | rfl
  rotate_left
  · exact wl_81 E0 u v
  rcases Nat.lt_succ_iff_lt_or_eq.mp hk with hk | rfl
  rotate_left
  · exact wl_80 E0 u v
  rcases Nat.lt_succ_iff_lt_or_eq.mp hk with hk | rfl
  rotate_left
  · exact wl_79 E0 u v
  rcases Nat.lt_succ_iff_lt_or_eq.mp hk with hk | rfl
  rotate_left
  · exact wl_78 E0 u v
  rcases Nat.lt_succ_iff_lt_or_eq.mp hk with hk | rfl
  rotate_left
  · exact wl_77 E0 u v
  rcases Nat.lt_succ_iff_lt_or_eq.mp hk with hk | rfl
  rotate_left
  · exact wl_76 E0 u v
  rcases Nat.lt_succ_iff_lt_or_eq.mp hk with hk | rfl
  rotate_left
  · exact wl_75 E0 u v
  rcases Nat.lt_succ_iff_lt_or_eq.mp hk with hk | rfl
  rotate_left
  · exact wl_74 E0 u v
  rcases Nat.lt_succ_iff_lt_or_eq.mp hk with hk | rfl
  rotate_left
  · exact wl_73 E0 u v
  rcases Nat.lt_succ_iff_lt_or_eq.mp hk with hk | rfl
  rotate_left
  · exact wl_72 E0 u v
  rcases Nat.lt_succ_iff_lt_or_eq.mp hk with hk | rfl
  rotate_left
  · exact wl_71 E0 u v
  rcases Nat.lt_succ_iff_lt_or_eq.mp hk with hk | rfl
  rotate_left
  · exact wl_70 E0 u v
  rcases Nat.lt_succ_iff_lt_or_eq.mp hk with hk | rfl
  rotate_left
  · exact wl_69 E0 u v
  rcases Nat.lt_succ_iff_lt_or_eq.mp hk with hk | rfl
  rotate_left
  · exact wl_68 E0 u v
  rcases Nat.lt_succ_iff_lt_or_eq.mp hk with hk | rfl
  rotate_left
  · exact wl_67 E0 u v
  rcases Nat.lt_succ_iff_lt_or_eq.mp hk with hk | rfl
  rotate_left
  · exact wl_66 E0 u v
  rcases Nat.lt_succ_iff_lt_or_eq.mp hk with hk | rfl
  rotate_left
  · exact wl_65 E0 u v
  rcases Nat.lt_succ_iff_lt_or_eq.mp hk with hk | rfl
  rotate_left
  · exact wl_64 E0 u v
  rcases Nat.lt_succ_iff_lt_or_eq.mp hk with hk | rfl
  rotate_left
  · exact wl_63 E0 u v
  rcases Nat.lt_succ_iff_lt_or_eq.mp hk with hk | rfl
  rotate_left
  · exact wl_62 E0 u v
  rcases Nat.lt_succ_iff_lt_or_eq.mp hk with hk | rfl
  rotate_left
  · exact wl_61 E0 u v
  rcases Nat.lt_succ_iff_lt_or_eq.mp hk with hk | rfl
  rotate_left
  · exact wl_60 E0 u v
  rcases Nat.lt_succ_iff_lt_or_eq.mp hk with hk | rfl
  rotate_left
  · exact wl_59 E0 u v
  rcases Nat.lt_succ_iff_lt_or_eq.mp hk with hk | rfl
  rotate_left
  · exact wl_58 E0 u v
  rcases Nat.lt_succ_iff_lt_or_eq.mp hk with hk | rfl
  rotate_left
  · exact wl_57 E0 u v
  rcases Nat.lt_succ_iff_lt_or_eq.mp hk with hk | rfl
  rotate_left
  · exact wl_56 E0 u v
  rcases Nat.lt_succ_iff_lt_or_eq.mp hk with hk | rfl
  rotate_left
  · exact wl_55 E0 u v
  rcases Nat.lt_succ_iff_lt_or_eq.mp hk with hk | rfl
  rotate_left
  · exact wl_54 E0 u v
  rcases Nat.lt_succ_iff_lt_or_eq.mp hk with hk | rfl
  rotate_left
  · exact wl_53 E0 u v
  rcases Nat.lt_succ_iff_lt_or_eq.mp hk with hk | rfl
  rotate_left
  · exact wl_52 E0 u v
  rcases Nat.lt_succ_iff_lt_or_eq.mp hk with hk | rfl
  rotate_left
  · exact wl_51 E0 u v
  rcases Nat.lt_succ_iff_lt_or_eq.mp hk with hk | rfl
  rotate_left
  · exact wl_50 E0 u v
  rcases Nat.lt_succ_iff_lt_or_eq.mp hk with hk | rfl
  rotate_left
  · exact wl_49 E0 u v
  rcases Nat.lt_succ_iff_lt_or_eq.mp hk with hk | rfl
  rotate_left
  · exact wl_48 E0 u v
  rcases Nat.lt_succ_iff_lt_or_eq.mp hk with hk | rfl
  rotate_left
  · exact wl_47 E0 u v
  rcases Nat.lt_succ_iff_lt_or_eq.mp hk with hk | rfl
  rotate_left
  · exact wl_46 E0 u v
  rcases Nat.lt_succ_iff_lt_or_eq.mp hk with hk | rfl
  rotate_left
  · exact wl_45 E0 u v
  rcases Nat.lt_succ_iff_lt_or_eq.mp hk with hk | rfl
  rotate_left
  · exact wl_44 E0 u v
  rcases Nat.lt_succ_iff_lt_or_eq.mp hk with hk | rfl
  rotate_left
  · exact wl_43 E0 u v
  rcases Nat.lt_succ_iff_lt_or_eq.mp hk with hk | rfl
  rotate_left
  · exact wl_42 E0 u v
  rcases Nat.lt_succ_iff_lt_or_eq.mp hk with hk | rfl
  rotate_left
  · exact wl_41 E0 u v
  rcases Nat.lt_succ_iff_lt_or_eq.mp hk with hk | rfl
  rotate_left
  · exact wl_40 E0 u v
  rcases Nat.lt_succ_iff_lt_or_eq.mp hk with hk | rfl
  rotate_left
  · exact wl_39 E0 u v
  rcases Nat.lt_succ_iff_lt_or_eq.mp hk with hk | rfl
  rotate_left
  · exact wl_38 E0 u v
  rcases Nat.lt_succ_iff_lt_or_eq.mp hk with hk | rfl
  rotate_left
  · exact wl_37 E0 u v
  rcases Nat.lt_succ_iff_lt_or_eq.mp hk with hk | rfl
  rotate_left
  · exact wl_36 E0 u v
  rcases Nat.lt_succ_iff_lt_or_eq.mp hk with hk | rfl
  rotate_left
  · exact wl_35 E0 u v
  rcases Nat.lt_succ_iff_lt_or_eq.mp hk with hk | rfl
  rotate_left
  · exact wl_34 E0 u v
  rcases Nat.lt_succ_iff_lt_or_eq.mp hk with hk | rfl
  rotate_left
  · exact wl_33 E0 u v
  rcases Nat.lt_succ_iff_lt_or_eq.mp hk with hk | rfl
  rotate_left
  · exact wl_32 E0 u v
  rcases Nat.lt_succ_iff_lt_or_eq.mp hk with hk | rfl
  rotate_left
  · exact wl_31 E0 u v
  rcases Nat.lt_succ_iff_lt_or_eq.mp hk with hk | rfl
  rotate_left
  · exact wl_30 E0 u v
  rcases Nat.lt_succ_iff_lt_or_eq.mp hk with hk | rfl
  rotate_left
  · exact wl_29 E0 u v
  rcases Nat.lt_succ_iff_lt_or_eq.mp hk with hk | rfl
  rotate_left
  · exact wl_28 E0 u v
  rcases Nat.lt_succ_iff_lt_or_eq.mp hk with hk | rfl
  rotate_left
  · exact wl_27 E0 u v
  rcases Nat.lt_succ_iff_lt_or_eq.mp hk with hk | rfl
  rotate_left
  · exact wl_26 E0 u v
  rcases Nat.lt_succ_iff_lt_or_eq.mp hk with hk | rfl
  rotate_left
  · exact wl_25 E0 u v
  rcases Nat.lt_succ_iff_lt_or_eq.mp hk with hk | rfl
  rotate_left
  · exact wl_24 E0 u v
  rcases Nat.lt_succ_iff_lt_or_eq.mp hk with hk | rfl
  rotate_left
  · exact wl_23 E0 u v
  rcases Nat.lt_succ_iff_lt_or_eq.mp hk with hk | rfl
  rotate_left
  · exact wl_22 E0 u v
  rcases Nat.lt_succ_iff_lt_or_eq.mp hk with hk | rfl
  rotate_left
  · exact wl_21 E0 u v
  rcases Nat.lt_succ_iff_lt_or_eq.mp hk with hk | rfl
  rotate_left
  · exact wl_20 E0 u v
  rcases Nat.lt_succ_iff_lt_or_eq.mp hk with hk | rfl
  rotate_left
  · exact wl_19 E0 u v
  rcases Nat.lt_succ_iff_lt_or_eq.mp hk with hk | rfl
  rotate_left
  · exact wl_18 E0 u v
  rcases Nat.lt_succ_iff_lt_or_eq.mp hk with hk | rfl
  rotate_left
  · exact wl_17 E0 u v
  rcases Nat.lt_succ_iff_lt_or_eq.mp hk with hk | rfl
  rotate_left
  · exact wl_16 E0 u v
  rcases Nat.lt_succ_iff_lt_or_eq.mp hk with hk | rfl
  rotate_left
  · exact wl_15 E0 u v
  rcases Nat.lt_succ_iff_lt_or_eq.mp hk with hk | rfl
  rotate_left
  · exact wl_14 E0 u v
  rcases Nat.lt_succ_iff_lt_or_eq.mp hk with hk | rfl
  rotate_left
  · exact wl_13 E0 u v
  rcases Nat.lt_succ_iff_lt_or_eq.mp hk with hk | rfl
  rotate_left
  · exact wl_12 E0 u v
  rcases Nat.lt_succ_iff_lt_or_eq.mp hk with hk | rfl
  rotate_left
  · exact wl_11 E0 u v
  rcases Nat.lt_succ_iff_lt_or_eq.mp hk with hk | rfl
  rotate_left
  · exact wl_10 E0 u v
  rcases Nat.lt_succ_iff_lt_or_eq.mp hk with hk | rfl
  rotate_left
  · exact wl_9 E0 u v
  rcases Nat.lt_succ_iff_lt_or_eq.mp hk with hk | rfl
  rotate_left
  · exact wl_8 E0 u v
  rcases Nat.lt_succ_iff_lt_or_eq.mp hk with hk | rfl
  rotate_left
  · exact wl_7 E0 u v
  rcases Nat.lt_succ_iff_lt_or_eq.mp hk with hk | rfl
  rotate_left
  · exact wl_6 E0 u v
  rcases Nat.lt_succ_iff_lt_or_eq.mp hk with hk | rfl
  rotate_left
  · exact wl_5 E0 u v
  rcases Nat.lt_succ_iff_lt_or_eq.mp hk with hk | rfl
  rotate_left
  · exact wl_4 E0 u v
  rcases Nat.lt_succ_iff_lt_or_eq.mp hk with hk | rfl
  rotate_left
  · exact wl_3 E0 u v
  rcases Nat.lt_succ_iff_lt_or_eq.mp hk with hk | rfl
  rotate_left
  · exact wl_2 E0 u v
  rcases Nat.lt_succ_iff_lt_or_eq.mp hk with hk | rfl
  rotate_left
  · exact wl_1 E0 u v
  rcases Nat.lt_succ_iff_lt_or_eq.mp hk with hk | rfl
  rotate_left
  · exact wl_0 E0 u v
  exact absurd hk (Nat.not_lt_zero _)
theorem LW_P {E0 : QE} {u v : Nat → Nat} {H : Heap} (h : va_P (eG E0) vwC (xL E0 u ++ rmL E0 v) H) : va_P (eG (fE E0 u v)) vwC (LW (fE E0 u v) S0) H := by
  rw [wlF_eq] at h
  refine va_P.by (D := eG E0) h gP (fun k q hk => ?_)
  have hl := (List.getElem?_eq_some_iff.mp hk).1
  rw [LW_len] at hl
  rw [LW_atA hl] at hk
  cases hk
  exact wl_all E0 u v k hl
theorem gP_inj : ∀ i, i < 82 → ∀ j, j < 82 → gP i = gP j → i = j := by decide +kernel
theorem LW_D {E0 : QE} {u v : Nat → Nat} {A : Nat → Prop} (h : va_D A (xL E0 u ++ rmL E0 v)) : va_D A (LW (fE E0 u v) S0) := by
  rw [wlF_eq] at h
  refine va_D.by h gP (fun k q hk => ?_) (fun i j hi hj => ?_)
  · have hl := (List.getElem?_eq_some_iff.mp hk).1
    rw [LW_len] at hl
    rw [LW_atA hl] at hk
    cases hk
    exact wl_all E0 u v k hl
  · rw [LW_len] at hi hj
    exact gP_inj i hi j hj
