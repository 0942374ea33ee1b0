abbrev QM : Type := Nat → Nat → Int32
abbrev QE : Type := va_G × ((Nat → Nat) × ((Nat → ClassId) × ((Nat → Nat) × ((Nat → Nat) × (Nat → Nat)))))
def eG (E : QE) : va_G := E.1
def eA (E : QE) : Nat → Nat := E.2.1
def eC (E : QE) : Nat → ClassId := E.2.2.1
def eZ (E : QE) : Nat → Nat := E.2.2.2.1
def eK (E : QE) : Nat → Nat := E.2.2.2.2.1
def eV (E : QE) : Nat → Nat := E.2.2.2.2.2
def fV (E : QE) (S : QM) (q : Nat ⊕ (Nat × Nat)) : Value := match q with
  | .inl c => .ref (eA E c)
  | .inr q => .int (S q.1 q.2)
def ctn (S : QM) (q : Nat × (Nat × Nat)) : Nat → Int32 := fun j => if j < q.2.2 then S q.1 (q.2.1 + j) else 0
def rfn (E : QE) (r : Nat × List Nat) : Nat → Option Nat := fun j => (r.2[j]?).map (if r.1 = 3 then eK E else eA E)
def cO (E : QE) (S : QM) (d : QD) : va_E := match d with
  | .inl q => .inl (eC E 0, q.2.2, .inl (ctn S q))
  | .inr (.inl o) => .inr (o.1, o.2.map (fV E S))
  | .inr (.inr r) => .inl (eC E r.1, r.2.length, .inr (.inr (.inr (.inr (rfn E r)))))
def dsA (c : Nat) : QD := dsT.getD c (.inl (0, (0, 0)))
def LW (E : QE) (S : QM) : va_W := (List.range 82).map (fun c => (eA E c, cO E S (dsA c)))
theorem dsT_len : dsT.length = 82 := by decide +kernel
theorem dsA_of {c : Nat} {d : QD} (h : dsT[c]? = some d) : c < 82 ∧ dsA c = d := by
  have h1 := (List.getElem?_eq_some_iff.mp h).1
  rw [dsT_len] at h1
  refine ⟨h1, ?_⟩
  unfold dsA
  rw [List.getD_eq_getElem?_getD, h]
  rfl
theorem LW_at {E : QE} {S : QM} {c : Nat} {d : QD} (h : dsT[c]? = some d) : (LW E S)[c]? = some (eA E c, cO E S d) := by
  obtain ⟨h1, h2⟩ := dsA_of h
  unfold LW
  rw [List.getElem?_map, List.getElem?_range h1, ← h2]
  rfl
theorem LW_len {E : QE} {S : QM} : (LW E S).length = 82 := by simp [LW]
theorem LW_atA {E : QE} {S : QM} {c : Nat} (h : c < 82) : (LW E S)[c]? = some (eA E c, cO E S (dsA c)) := by
  unfold LW
  rw [List.getElem?_map, List.getElem?_range h]
  rfl
/-- what a cell reads of the memory: rows and stretches of them -/
def rdI (d : QD) : List (Nat × (Nat × Nat)) := match d with
  | .inl q => [q]
  | .inr (.inl o) => o.2.filterMap (fun f => match f with
    | .inl _ => none
    | .inr q => some (q.1, (q.2, 1)))
  | .inr (.inr _) => []
def apI (x y : Nat × (Nat × Nat)) : Bool := !(x.1 == y.1) || (decide (x.2.1 + x.2.2 ≤ y.2.1) || decide (y.2.1 + y.2.2 ≤ x.2.1))
def apD (d e : QD) : Bool := (rdI d).all fun x => (rdI e).all fun y => apI x y
theorem ap_all : ∀ c, c < 82 → ∀ k, k < 82 → k = c ∨ apD (dsA c) (dsA k) = true := by decide +kernel
theorem ap_spec {d e : QD} (h : apD d e = true) {x y : Nat × (Nat × Nat)} (hx : x ∈ rdI d) (hy : y ∈ rdI e) : x.1 ≠ y.1 ∨ x.2.1 + x.2.2 ≤ y.2.1 ∨ y.2.1 + y.2.2 ≤ x.2.1 := by
  have h1 := List.all_eq_true.mp (List.all_eq_true.mp h x hx) y hy
  simp only [apI, Bool.or_eq_true, Bool.not_eq_true', beq_eq_false_iff_ne, ne_eq, decide_eq_true_eq] at h1
  exact h1
/-- two memories that agree on what a cell reads give the same cell -/
theorem cO_same {E : QE} {S U : QM} {d : QD} (h : ∀ y, y ∈ rdI d → ∀ p, y.2.1 ≤ p → p < y.2.1 + y.2.2 → U y.1 p = S y.1 p) : cO E U d = cO E S d := by
  rcases d with q | o | r
  · have e : ctn U q = ctn S q := by
      funext j
      unfold ctn
      by_cases hj : j < q.2.2
      · rw [if_pos hj, if_pos hj]
        exact h q (by simp [rdI]) (q.2.1 + j) (by omega) (by omega)
      · rw [if_neg hj, if_neg hj]
    show (Sum.inl (eC E 0, q.2.2, Sum.inl (ctn U q)) : va_E) = _
    rw [e]
    rfl
  · have e : o.2.map (fV E U) = o.2.map (fV E S) := by
      refine List.map_congr_left (fun f hf => ?_)
      rcases f with a | q
      · rfl
      · show Value.int (U q.1 q.2) = Value.int (S q.1 q.2)
        rw [h (q.1, (q.2, 1)) (by
          show _ ∈ List.filterMap _ _
          exact List.mem_filterMap.mpr ⟨_, hf, rfl⟩) q.2 (Nat.le_refl _) (Nat.lt_succ_self _)]
    show (Sum.inr (o.1, o.2.map (fV E U)) : va_E) = _
    rw [e]
    rfl
  · rfl
/-- the world behind a change of one array -/
theorem LW_gen {E : QE} {S U : QM} {c : Nat} {q : Nat × (Nat × Nat)} {g : Nat → Int32} (hd : dsT[c]? = some (.inl q)) (hg : ∀ j, g j = ctn U q j) (ho : ∀ a p, ¬ (a = q.1 ∧ q.2.1 ≤ p ∧ p < q.2.1 + q.2.2) → U a p = S a p) :
    (LW E S).set c (eA E c, .inl (eC E 0, q.2.2, .inl g)) = LW E U := by
  obtain ⟨hc, hdA⟩ := dsA_of hd
  have eg : g = ctn U q := funext hg
  subst eg
  apply List.ext_getElem?
  intro k
  by_cases hk : k = c
  · subst hk
    rw [List.getElem?_set_self (by rw [LW_len]; exact hc), LW_at hd]
    rfl
  · rw [List.getElem?_set_ne (Ne.symm hk)]
    by_cases hl : k < 82
    · rw [LW_atA hl, LW_atA hl]
      have hap := (ap_all c hc k hl).resolve_left hk
      rw [cO_same (U := U) (S := S) (fun y hy p h1 h2 => ho _ _ (fun z => ?_))]
      have := ap_spec hap (x := q) (y := y) (by rw [hdA]; simp [rdI]) hy
      obtain ⟨z1, z2, z3⟩ := z
      rcases this with t | t | t
      · exact t z1.symm
      · omega
      · omega
    · rw [List.getElem?_eq_none (by rw [LW_len]; omega), List.getElem?_eq_none (by rw [LW_len]; omega)]
def qfA (c k : Nat) : Option (Nat × Nat) := match dsA c with
  | .inr (.inl o) => match o.2[k]? with
    | some (.inr q) => some q
    | _ => none
  | _ => none
theorem qfA_ndB : ((List.range 82).all fun c => (List.range 22).all fun k => (List.range 22).all fun j => decide (k = j) || (decide (qfA c k = none) || !decide (qfA c k = qfA c j))) = true := by decide +kernel
theorem qfA_nd (c : Nat) (hc : c < 82) (k : Nat) (hk : k < 22) (j : Nat) (hj : j < 22) : k = j ∨ qfA c k = none ∨ ¬ qfA c k = qfA c j := by
  have h := List.all_eq_true.mp (List.all_eq_true.mp (List.all_eq_true.mp qfA_ndB c (List.mem_range.mpr hc)) k (List.mem_range.mpr hk)) j (List.mem_range.mpr hj)
  simp only [Bool.or_eq_true, Bool.not_eq_true', decide_eq_true_eq, decide_eq_false_iff_not] at h
  exact h
theorem qfA_len : ∀ c, c < 82 → (match dsA c with
  | .inr (.inl o) => decide (o.2.length < 22)
  | _ => true) = true := by decide +kernel
def qst (S : QM) (i j : Nat) (v : Int32) : QM := fun a => if a = i then upd (S a) j v else S a
theorem qst_at {S : QM} {i j : Nat} {v : Int32} : qst S i j v i j = v := by simp [qst, upd]
theorem qst_row {S : QM} {i j : Nat} {v : Int32} : qst S i j v i = upd (S i) j v := by simp [qst]
theorem qst_ne {S : QM} {i j a p : Nat} {v : Int32} (h : ¬ (a = i ∧ p = j)) : qst S i j v a p = S a p := by
  unfold qst
  by_cases ha : a = i
  · rw [if_pos ha]
    unfold upd
    rw [if_neg (fun hp => h ⟨ha, hp⟩)]
  · rw [if_neg ha]
theorem qst_nr {S : QM} {i j a : Nat} {v : Int32} (h : ¬ a = i) : qst S i j v a = S a := by
  unfold qst
  rw [if_neg h]
theorem LW_st {E : QE} {S : QM} {c j : Nat} {q : Nat × (Nat × Nat)} {v : Int32} (hd : dsT[c]? = some (.inl q)) (hj : j < q.2.2) :
    (LW E S).set c (eA E c, .inl (eC E 0, q.2.2, .inl (upd (ctn S q) j v))) = LW E (qst S q.1 (q.2.1 + j) v) := by
  refine LW_gen hd (fun i => ?_) (fun a p h => qst_ne (fun z => h ⟨z.1, by omega, by omega⟩))
  unfold upd ctn
  by_cases hi : i = j
  · subst hi
    rw [if_pos rfl, if_pos hj, qst_at]
  · rw [if_neg hi]
    by_cases hl : i < q.2.2
    · rw [if_pos hl, if_pos hl, qst_ne (fun z => hi (by omega))]
    · rw [if_neg hl, if_neg hl]
theorem LW_so {E : QE} {S : QM} {c k : Nat} {o : Nat × List (Nat ⊕ (Nat × Nat))} {q : Nat × Nat} {v : Int32} (hd : dsT[c]? = some (.inr (.inl o))) (hf : o.2[k]? = some (.inr q)) :
    (LW E S).set c (eA E c, .inr (o.1, (o.2.map (fV E S)).set k (.int v))) = LW E (qst S q.1 q.2 v) := by
  obtain ⟨hc, hdA⟩ := dsA_of hd
  have hk0 := (List.getElem?_eq_some_iff.mp hf).1
  have hlen : o.2.length < 22 := by
    have := qfA_len c hc
    rw [hdA] at this
    exact of_decide_eq_true this
  have hq : qfA c k = some q := by
    unfold qfA
    rw [hdA]
    show (match o.2[k]? with
      | some (.inr q) => some q
      | _ => none) = some q
    rw [hf]
  apply List.ext_getElem?
  intro i
  by_cases hi : i = c
  · subst hi
    rw [List.getElem?_set_self (by rw [LW_len]; exact hc), LW_at hd]
    show _ = some (eA E i, (Sum.inr (o.1, o.2.map (fV E (qst S q.1 q.2 v))) : va_E))
    refine congrArg (fun z => some (eA E i, (Sum.inr (o.1, z) : va_E))) ?_
    apply List.ext_getElem?
    intro j
    by_cases hj : j = k
    · subst hj
      rw [List.getElem?_set_self (by rw [List.length_map]; exact hk0), List.getElem?_map, hf]
      show _ = some (Value.int (qst S q.1 q.2 v q.1 q.2))
      rw [qst_at]
    · rw [List.getElem?_set_ne (Ne.symm hj), List.getElem?_map, List.getElem?_map]
      cases hjf : o.2[j]? with
      | none => rfl
      | some f =>
        have hj0 := (List.getElem?_eq_some_iff.mp hjf).1
        rcases f with a | r
        · rfl
        · show some (Value.int (S r.1 r.2)) = some (Value.int (qst S q.1 q.2 v r.1 r.2))
          rw [qst_ne (fun z => ?_)]
          have hr : qfA i j = some r := by
            unfold qfA
            rw [hdA]
            show (match o.2[j]? with
              | some (.inr q) => some q
              | _ => none) = some r
            rw [hjf]
          rcases qfA_nd i hc k (by omega) j (by omega) with t | t | t
          · exact hj t.symm
          · rw [hq] at t; cases t
          · exact t (by rw [hq, hr]; exact congrArg some (Prod.ext z.1.symm z.2.symm))
  · rw [List.getElem?_set_ne (Ne.symm hi)]
    by_cases hl : i < 82
    · rw [LW_atA hl, LW_atA hl]
      have hap := (ap_all c hc i hl).resolve_left hi
      rw [cO_same (U := qst S q.1 q.2 v) (S := S) (fun y hy p h1 h2 => qst_ne (fun z => ?_))]
      have := ap_spec hap (x := (q.1, (q.2, 1))) (y := y) (by
        rw [hdA]
        show _ ∈ List.filterMap _ _
        exact List.mem_filterMap.mpr ⟨_, List.mem_of_getElem? hf, rfl⟩) hy
      obtain ⟨z1, z2⟩ := z
      dsimp only at this
      rcases this with t | t | t
      · exact t z1.symm
      · omega
      · omega
    · rw [List.getElem?_eq_none (by rw [LW_len]; omega), List.getElem?_eq_none (by rw [LW_len]; omega)]
/-- n places of a row come to another one's (or its own), as they all were -/
def qcp (S : QM) (r0 o0 r1 o1 n : Nat) : QM := fun a => if a = r1 then (fun p => if o1 ≤ p ∧ p < o1 + n then S r0 (o0 + (p - o1)) else S a p) else S a
theorem LW_cp {E : QE} {S : QM} {c sp dp n : Nat} {q r : Nat × (Nat × Nat)} (hd : dsT[c]? = some (.inl r)) (h0 : sp + n ≤ q.2.2) (h1 : dp + n ≤ r.2.2) :
    (LW E S).set c (eA E c, .inl (eC E 0, r.2.2, .inl (va_cpy (ctn S q) (ctn S r) sp dp n))) = LW E (qcp S q.1 (q.2.1 + sp) r.1 (r.2.1 + dp) n) := by
  refine LW_gen hd (fun j => ?_) (fun a p h => ?_)
  · unfold va_cpy ctn qcp
    rw [if_pos rfl]
    by_cases hj : dp ≤ j ∧ j < dp + n
    · rw [if_pos hj, if_pos (by omega), if_pos (by omega), if_pos (by omega)]
      congr 1
      omega
    · rw [if_neg hj]
      by_cases hl : j < r.2.2
      · rw [if_pos hl, if_pos hl, if_neg (by omega)]
      · rw [if_neg hl, if_neg hl]
  · unfold qcp
    by_cases ha : a = r.1
    · rw [if_pos ha]
      show (if r.2.1 + dp ≤ p ∧ p < r.2.1 + dp + n then _ else _) = _
      rw [if_neg (fun z => h ⟨ha, by omega, by omega⟩)]
    · rw [if_neg ha]
