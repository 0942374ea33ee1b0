def tmS (i : Nat) : Term := .string "CarelessMist$Tape" ([100, 102, 106, 108, 110, 112, 114, 38, 83, 89, 47].getD i 0)
theorem law_z0 {p : Program} {s : State} {m : MethodId} {meth : Method} {c : Code} {b L : Nat} {xs : Nat → Int32} (C0 : lw_At p s m meth c b L xs) : ∃ t, qZt "CarelessMist" "MOST_OF_THING" t zt0 (fun q => s.heap.size ≤ q) s s.heap := by
  obtain ⟨-, -, -, -, -, hts, -, -, -, hgv⟩ := id C0
  have hq := flat_of_before _ hgv
  have hA : ∀ a : Nat, a < s.heap.size → ¬ (fun q : Nat => s.heap.size ≤ q) a := fun a h z => Nat.not_lt.mpr z h
  obtain ⟨t, h1, h2⟩ := va_Tof (tm := .static "CarelessMist" "MOST_OF_THING" "[I") (ty := .int) (N := 3) (f := fun j => .int (zt0.getD j 0)) (by decide) (hq _ (List.mem_of_getElem? (i := 5) (by decide +kernel))) (va_eqt (hq _ (List.mem_of_getElem? (i := 6) (by decide +kernel)))) (fun j hj => by
    rcases (show j = 0 ∨ j = 1 ∨ j = 2 by omega) with rfl | rfl | rfl
    · exact va_eqt (hq _ (List.mem_of_getElem? (i := 7) (by decide +kernel)))
    · exact va_eqt (hq _ (List.mem_of_getElem? (i := 8) (by decide +kernel)))
    · exact va_eqt (hq _ (List.mem_of_getElem? (i := 9) (by decide +kernel)))) hA
  exact ⟨t, va_Zof (hts _ (List.mem_of_getElem? (i := 226) (by decide +kernel))) (hts _ (List.mem_of_getElem? (i := 66) (by decide +kernel))) h1 hA, h2⟩
theorem law_z1 {p : Program} {s : State} {m : MethodId} {meth : Method} {c : Code} {b L : Nat} {xs : Nat → Int32} (C0 : lw_At p s m meth c b L xs) : ∃ t, qZt "CarelessMist" "LEAST_OF_WALKER" t zt1 (fun q => s.heap.size ≤ q) s s.heap := by
  obtain ⟨-, -, -, -, -, hts, -, -, -, hgv⟩ := id C0
  have hq := flat_of_before _ hgv
  have hA : ∀ a : Nat, a < s.heap.size → ¬ (fun q : Nat => s.heap.size ≤ q) a := fun a h z => Nat.not_lt.mpr z h
  obtain ⟨t, h1, h2⟩ := va_Tof (tm := .static "CarelessMist" "LEAST_OF_WALKER" "[I") (ty := .int) (N := 6) (f := fun j => .int (zt1.getD j 0)) (by decide) (hq _ (List.mem_of_getElem? (i := 11) (by decide +kernel))) (va_eqt (hq _ (List.mem_of_getElem? (i := 12) (by decide +kernel)))) (fun j hj => by
    rcases (show j = 0 ∨ j = 1 ∨ j = 2 ∨ j = 3 ∨ j = 4 ∨ j = 5 by omega) with rfl | rfl | rfl | rfl | rfl | rfl
    · exact va_eqt (hq _ (List.mem_of_getElem? (i := 13) (by decide +kernel)))
    · exact va_eqt (hq _ (List.mem_of_getElem? (i := 14) (by decide +kernel)))
    · exact va_eqt (hq _ (List.mem_of_getElem? (i := 15) (by decide +kernel)))
    · exact va_eqt (hq _ (List.mem_of_getElem? (i := 16) (by decide +kernel)))
    · exact va_eqt (hq _ (List.mem_of_getElem? (i := 17) (by decide +kernel)))
    · exact va_eqt (hq _ (List.mem_of_getElem? (i := 18) (by decide +kernel)))) hA
  exact ⟨t, va_Zof (hts _ (List.mem_of_getElem? (i := 274) (by decide +kernel))) (hts _ (List.mem_of_getElem? (i := 66) (by decide +kernel))) h1 hA, h2⟩
theorem law_z2 {p : Program} {s : State} {m : MethodId} {meth : Method} {c : Code} {b L : Nat} {xs : Nat → Int32} (C0 : lw_At p s m meth c b L xs) : ∃ t, qZt "CarelessMist" "MOST_OF_WALKER" t zt2 (fun q => s.heap.size ≤ q) s s.heap := by
  obtain ⟨-, -, -, -, -, hts, -, -, -, hgv⟩ := id C0
  have hq := flat_of_before _ hgv
  have hA : ∀ a : Nat, a < s.heap.size → ¬ (fun q : Nat => s.heap.size ≤ q) a := fun a h z => Nat.not_lt.mpr z h
  obtain ⟨t, h1, h2⟩ := va_Tof (tm := .static "CarelessMist" "MOST_OF_WALKER" "[I") (ty := .int) (N := 6) (f := fun j => .int (zt2.getD j 0)) (by decide) (hq _ (List.mem_of_getElem? (i := 20) (by decide +kernel))) (va_eqt (hq _ (List.mem_of_getElem? (i := 21) (by decide +kernel)))) (fun j hj => by
    rcases (show j = 0 ∨ j = 1 ∨ j = 2 ∨ j = 3 ∨ j = 4 ∨ j = 5 by omega) with rfl | rfl | rfl | rfl | rfl | rfl
    · exact va_eqt (hq _ (List.mem_of_getElem? (i := 22) (by decide +kernel)))
    · exact va_eqt (hq _ (List.mem_of_getElem? (i := 23) (by decide +kernel)))
    · exact va_eqt (hq _ (List.mem_of_getElem? (i := 24) (by decide +kernel)))
    · exact va_eqt (hq _ (List.mem_of_getElem? (i := 25) (by decide +kernel)))
    · exact va_eqt (hq _ (List.mem_of_getElem? (i := 26) (by decide +kernel)))
    · exact va_eqt (hq _ (List.mem_of_getElem? (i := 27) (by decide +kernel)))) hA
  exact ⟨t, va_Zof (hts _ (List.mem_of_getElem? (i := 276) (by decide +kernel))) (hts _ (List.mem_of_getElem? (i := 66) (by decide +kernel))) h1 hA, h2⟩
theorem law_z3 {p : Program} {s : State} {m : MethodId} {meth : Method} {c : Code} {b L : Nat} {xs : Nat → Int32} (C0 : lw_At p s m meth c b L xs) : ∃ t, qZt "CarelessMist$Kinds" "UNDER" t zt3 (fun q => s.heap.size ≤ q) s s.heap := by
  obtain ⟨-, -, -, -, -, hts, -, -, -, hgv⟩ := id C0
  have hq := flat_of_before _ hgv
  have hA : ∀ a : Nat, a < s.heap.size → ¬ (fun q : Nat => s.heap.size ≤ q) a := fun a h z => Nat.not_lt.mpr z h
  obtain ⟨t, h1, h2⟩ := va_Tof (tm := .static "CarelessMist$Kinds" "UNDER" "[I") (ty := .int) (N := 7) (f := fun j => .int (zt3.getD j 0)) (by decide) (hq _ (List.mem_of_getElem? (i := 34) (by decide +kernel))) (va_eqt (hq _ (List.mem_of_getElem? (i := 35) (by decide +kernel)))) (fun j hj => by
    rcases (show j = 0 ∨ j = 1 ∨ j = 2 ∨ j = 3 ∨ j = 4 ∨ j = 5 ∨ j = 6 by omega) with rfl | rfl | rfl | rfl | rfl | rfl | rfl
    · exact va_eqt (hq _ (List.mem_of_getElem? (i := 36) (by decide +kernel)))
    · exact va_eqt (hq _ (List.mem_of_getElem? (i := 37) (by decide +kernel)))
    · exact va_eqt (hq _ (List.mem_of_getElem? (i := 38) (by decide +kernel)))
    · exact va_eqt (hq _ (List.mem_of_getElem? (i := 39) (by decide +kernel)))
    · exact va_eqt (hq _ (List.mem_of_getElem? (i := 40) (by decide +kernel)))
    · exact va_eqt (hq _ (List.mem_of_getElem? (i := 41) (by decide +kernel)))
    · exact va_eqt (hq _ (List.mem_of_getElem? (i := 42) (by decide +kernel)))) hA
  exact ⟨t, va_Zof (hts _ (List.mem_of_getElem? (i := 610) (by decide +kernel))) (hts _ (List.mem_of_getElem? (i := 72) (by decide +kernel))) h1 hA, h2⟩
set_option maxHeartbeats 4000000 in
theorem law_zs {p : Program} {s : State} {m : MethodId} {meth : Method} {c : Code} {b L : Nat} {xs : Nat → Int32} (C0 : lw_At p s m meth c b L xs) : ∃ adK adV : Nat → Nat, vk_S 11 strL strB adK adV (fun q => s.heap.size ≤ q) s s.heap ∧ ∀ i : Nat, i < 11 → (tmS i).eval #[.ref b] s none [] s = some (.ref (adK i)) := by
  obtain ⟨-, -, -, -, -, hts, -, -, -, hgv⟩ := id C0
  have hq := flat_of_before _ hgv
  have hA : ∀ a : Nat, a < s.heap.size → ¬ (fun q : Nat => s.heap.size ≤ q) a := fun a h z => Nat.not_lt.mpr z h
  refine vk_Sof (tm := tmS) (by decide +kernel) (fun i hi => ?_) (fun i hi => ?_) (fun i hi => ?_) (fun i hi => ?_) (fun i hi => ?_) (fun i j hi hj hij => ?_) hA
  · rcases (show i = 0 ∨ i = 1 ∨ i = 2 ∨ i = 3 ∨ i = 4 ∨ i = 5 ∨ i = 6 ∨ i = 7 ∨ i = 8 ∨ i = 9 ∨ i = 10 by omega) with rfl | rfl | rfl | rfl | rfl | rfl | rfl | rfl | rfl | rfl | rfl
    · exact (hq _ (List.mem_of_getElem? (i := 84) (by decide +kernel)))
    · exact (hq _ (List.mem_of_getElem? (i := 97) (by decide +kernel)))
    · exact (hq _ (List.mem_of_getElem? (i := 113) (by decide +kernel)))
    · exact (hq _ (List.mem_of_getElem? (i := 126) (by decide +kernel)))
    · exact (hq _ (List.mem_of_getElem? (i := 142) (by decide +kernel)))
    · exact (hq _ (List.mem_of_getElem? (i := 159) (by decide +kernel)))
    · exact (hq _ (List.mem_of_getElem? (i := 176) (by decide +kernel)))
    · exact (hq _ (List.mem_of_getElem? (i := 43) (by decide +kernel)))
    · exact (hq _ (List.mem_of_getElem? (i := 53) (by decide +kernel)))
    · exact (hq _ (List.mem_of_getElem? (i := 62) (by decide +kernel)))
    · exact (hq _ (List.mem_of_getElem? (i := 73) (by decide +kernel)))
  · rcases (show i = 0 ∨ i = 1 ∨ i = 2 ∨ i = 3 ∨ i = 4 ∨ i = 5 ∨ i = 6 ∨ i = 7 ∨ i = 8 ∨ i = 9 ∨ i = 10 by omega) with rfl | rfl | rfl | rfl | rfl | rfl | rfl | rfl | rfl | rfl | rfl
    · exact (hq _ (List.mem_of_getElem? (i := 85) (by decide +kernel)))
    · exact (hq _ (List.mem_of_getElem? (i := 98) (by decide +kernel)))
    · exact (hq _ (List.mem_of_getElem? (i := 114) (by decide +kernel)))
    · exact (hq _ (List.mem_of_getElem? (i := 127) (by decide +kernel)))
    · exact (hq _ (List.mem_of_getElem? (i := 143) (by decide +kernel)))
    · exact (hq _ (List.mem_of_getElem? (i := 160) (by decide +kernel)))
    · exact (hq _ (List.mem_of_getElem? (i := 177) (by decide +kernel)))
    · exact (hq _ (List.mem_of_getElem? (i := 44) (by decide +kernel)))
    · exact (hq _ (List.mem_of_getElem? (i := 54) (by decide +kernel)))
    · exact (hq _ (List.mem_of_getElem? (i := 63) (by decide +kernel)))
    · exact (hq _ (List.mem_of_getElem? (i := 74) (by decide +kernel)))
  · rcases (show i = 0 ∨ i = 1 ∨ i = 2 ∨ i = 3 ∨ i = 4 ∨ i = 5 ∨ i = 6 ∨ i = 7 ∨ i = 8 ∨ i = 9 ∨ i = 10 by omega) with rfl | rfl | rfl | rfl | rfl | rfl | rfl | rfl | rfl | rfl | rfl
    · exact (hq _ (List.mem_of_getElem? (i := 86) (by decide +kernel)))
    · exact (hq _ (List.mem_of_getElem? (i := 99) (by decide +kernel)))
    · exact (hq _ (List.mem_of_getElem? (i := 115) (by decide +kernel)))
    · exact (hq _ (List.mem_of_getElem? (i := 128) (by decide +kernel)))
    · exact (hq _ (List.mem_of_getElem? (i := 144) (by decide +kernel)))
    · exact (hq _ (List.mem_of_getElem? (i := 161) (by decide +kernel)))
    · exact (hq _ (List.mem_of_getElem? (i := 178) (by decide +kernel)))
    · exact (hq _ (List.mem_of_getElem? (i := 45) (by decide +kernel)))
    · exact (hq _ (List.mem_of_getElem? (i := 55) (by decide +kernel)))
    · exact (hq _ (List.mem_of_getElem? (i := 64) (by decide +kernel)))
    · exact (hq _ (List.mem_of_getElem? (i := 75) (by decide +kernel)))
  · rcases (show i = 0 ∨ i = 1 ∨ i = 2 ∨ i = 3 ∨ i = 4 ∨ i = 5 ∨ i = 6 ∨ i = 7 ∨ i = 8 ∨ i = 9 ∨ i = 10 by omega) with rfl | rfl | rfl | rfl | rfl | rfl | rfl | rfl | rfl | rfl | rfl
    · exact (hq _ (List.mem_of_getElem? (i := 87) (by decide +kernel)))
    · exact (hq _ (List.mem_of_getElem? (i := 100) (by decide +kernel)))
    · exact (hq _ (List.mem_of_getElem? (i := 116) (by decide +kernel)))
    · exact (hq _ (List.mem_of_getElem? (i := 129) (by decide +kernel)))
    · exact (hq _ (List.mem_of_getElem? (i := 145) (by decide +kernel)))
    · exact (hq _ (List.mem_of_getElem? (i := 162) (by decide +kernel)))
    · exact (hq _ (List.mem_of_getElem? (i := 179) (by decide +kernel)))
    · exact (hq _ (List.mem_of_getElem? (i := 46) (by decide +kernel)))
    · exact (hq _ (List.mem_of_getElem? (i := 56) (by decide +kernel)))
    · exact (hq _ (List.mem_of_getElem? (i := 65) (by decide +kernel)))
    · exact (hq _ (List.mem_of_getElem? (i := 76) (by decide +kernel)))
  · rcases (show i = 0 ∨ i = 1 ∨ i = 2 ∨ i = 3 ∨ i = 4 ∨ i = 5 ∨ i = 6 ∨ i = 7 ∨ i = 8 ∨ i = 9 ∨ i = 10 by omega) with rfl | rfl | rfl | rfl | rfl | rfl | rfl | rfl | rfl | rfl | rfl
    · intro j hj
      rcases (show j = 0 ∨ j = 1 ∨ j = 2 ∨ j = 3 ∨ j = 4 by have h : j < 5 := hj; omega) with rfl | rfl | rfl | rfl | rfl
      · exact (hq _ (List.mem_of_getElem? (i := 88) (by decide +kernel)))
      · exact (hq _ (List.mem_of_getElem? (i := 89) (by decide +kernel)))
      · exact (hq _ (List.mem_of_getElem? (i := 90) (by decide +kernel)))
      · exact (hq _ (List.mem_of_getElem? (i := 91) (by decide +kernel)))
      · exact (hq _ (List.mem_of_getElem? (i := 92) (by decide +kernel)))
    · intro j hj
      rcases (show j = 0 ∨ j = 1 ∨ j = 2 ∨ j = 3 ∨ j = 4 ∨ j = 5 ∨ j = 6 by have h : j < 7 := hj; omega) with rfl | rfl | rfl | rfl | rfl | rfl | rfl
      · exact (hq _ (List.mem_of_getElem? (i := 101) (by decide +kernel)))
      · exact (hq _ (List.mem_of_getElem? (i := 102) (by decide +kernel)))
      · exact (hq _ (List.mem_of_getElem? (i := 103) (by decide +kernel)))
      · exact (hq _ (List.mem_of_getElem? (i := 104) (by decide +kernel)))
      · exact (hq _ (List.mem_of_getElem? (i := 105) (by decide +kernel)))
      · exact (hq _ (List.mem_of_getElem? (i := 106) (by decide +kernel)))
      · exact (hq _ (List.mem_of_getElem? (i := 107) (by decide +kernel)))
    · intro j hj
      rcases (show j = 0 ∨ j = 1 ∨ j = 2 by have h : j < 3 := hj; omega) with rfl | rfl | rfl
      · exact (hq _ (List.mem_of_getElem? (i := 117) (by decide +kernel)))
      · exact (hq _ (List.mem_of_getElem? (i := 118) (by decide +kernel)))
      · exact (hq _ (List.mem_of_getElem? (i := 119) (by decide +kernel)))
    · intro j hj
      rcases (show j = 0 ∨ j = 1 ∨ j = 2 ∨ j = 3 ∨ j = 4 by have h : j < 5 := hj; omega) with rfl | rfl | rfl | rfl | rfl
      · exact (hq _ (List.mem_of_getElem? (i := 130) (by decide +kernel)))
      · exact (hq _ (List.mem_of_getElem? (i := 131) (by decide +kernel)))
      · exact (hq _ (List.mem_of_getElem? (i := 132) (by decide +kernel)))
      · exact (hq _ (List.mem_of_getElem? (i := 133) (by decide +kernel)))
      · exact (hq _ (List.mem_of_getElem? (i := 134) (by decide +kernel)))
    · intro j hj
      rcases (show j = 0 ∨ j = 1 ∨ j = 2 ∨ j = 3 ∨ j = 4 by have h : j < 5 := hj; omega) with rfl | rfl | rfl | rfl | rfl
      · exact (hq _ (List.mem_of_getElem? (i := 146) (by decide +kernel)))
      · exact (hq _ (List.mem_of_getElem? (i := 147) (by decide +kernel)))
      · exact (hq _ (List.mem_of_getElem? (i := 148) (by decide +kernel)))
      · exact (hq _ (List.mem_of_getElem? (i := 149) (by decide +kernel)))
      · exact (hq _ (List.mem_of_getElem? (i := 150) (by decide +kernel)))
    · intro j hj
      rcases (show j = 0 ∨ j = 1 ∨ j = 2 ∨ j = 3 by have h : j < 4 := hj; omega) with rfl | rfl | rfl | rfl
      · exact (hq _ (List.mem_of_getElem? (i := 163) (by decide +kernel)))
      · exact (hq _ (List.mem_of_getElem? (i := 164) (by decide +kernel)))
      · exact (hq _ (List.mem_of_getElem? (i := 165) (by decide +kernel)))
      · exact (hq _ (List.mem_of_getElem? (i := 166) (by decide +kernel)))
    · intro j hj
      rcases (show j = 0 ∨ j = 1 ∨ j = 2 by have h : j < 3 := hj; omega) with rfl | rfl | rfl
      · exact (hq _ (List.mem_of_getElem? (i := 180) (by decide +kernel)))
      · exact (hq _ (List.mem_of_getElem? (i := 181) (by decide +kernel)))
      · exact (hq _ (List.mem_of_getElem? (i := 182) (by decide +kernel)))
    · intro j hj
      rcases (show j = 0 ∨ j = 1 ∨ j = 2 ∨ j = 3 ∨ j = 4 ∨ j = 5 by have h : j < 6 := hj; omega) with rfl | rfl | rfl | rfl | rfl | rfl
      · exact (hq _ (List.mem_of_getElem? (i := 47) (by decide +kernel)))
      · exact (hq _ (List.mem_of_getElem? (i := 48) (by decide +kernel)))
      · exact (hq _ (List.mem_of_getElem? (i := 49) (by decide +kernel)))
      · exact (hq _ (List.mem_of_getElem? (i := 50) (by decide +kernel)))
      · exact (hq _ (List.mem_of_getElem? (i := 51) (by decide +kernel)))
      · exact (hq _ (List.mem_of_getElem? (i := 52) (by decide +kernel)))
    · intro j hj
      rcases (show j = 0 ∨ j = 1 ∨ j = 2 ∨ j = 3 by have h : j < 4 := hj; omega) with rfl | rfl | rfl | rfl
      · exact (hq _ (List.mem_of_getElem? (i := 57) (by decide +kernel)))
      · exact (hq _ (List.mem_of_getElem? (i := 58) (by decide +kernel)))
      · exact (hq _ (List.mem_of_getElem? (i := 59) (by decide +kernel)))
      · exact (hq _ (List.mem_of_getElem? (i := 60) (by decide +kernel)))
    · intro j hj
      rcases (show j = 0 ∨ j = 1 ∨ j = 2 ∨ j = 3 ∨ j = 4 by have h : j < 5 := hj; omega) with rfl | rfl | rfl | rfl | rfl
      · exact (hq _ (List.mem_of_getElem? (i := 66) (by decide +kernel)))
      · exact (hq _ (List.mem_of_getElem? (i := 67) (by decide +kernel)))
      · exact (hq _ (List.mem_of_getElem? (i := 68) (by decide +kernel)))
      · exact (hq _ (List.mem_of_getElem? (i := 69) (by decide +kernel)))
      · exact (hq _ (List.mem_of_getElem? (i := 70) (by decide +kernel)))
    · intro j hj
      rcases (show j = 0 ∨ j = 1 ∨ j = 2 ∨ j = 3 by have h : j < 4 := hj; omega) with rfl | rfl | rfl | rfl
      · exact (hq _ (List.mem_of_getElem? (i := 77) (by decide +kernel)))
      · exact (hq _ (List.mem_of_getElem? (i := 78) (by decide +kernel)))
      · exact (hq _ (List.mem_of_getElem? (i := 79) (by decide +kernel)))
      · exact (hq _ (List.mem_of_getElem? (i := 80) (by decide +kernel)))
  · rcases (show i = 0 ∨ i = 1 ∨ i = 2 ∨ i = 3 ∨ i = 4 ∨ i = 5 ∨ i = 6 ∨ i = 7 ∨ i = 8 ∨ i = 9 ∨ i = 10 by omega) with rfl | rfl | rfl | rfl | rfl | rfl | rfl | rfl | rfl | rfl | rfl
    · rcases (show j = 0 ∨ j = 1 ∨ j = 2 ∨ j = 3 ∨ j = 4 ∨ j = 5 ∨ j = 6 ∨ j = 7 ∨ j = 8 ∨ j = 9 ∨ j = 10 by omega) with rfl | rfl | rfl | rfl | rfl | rfl | rfl | rfl | rfl | rfl | rfl
      · exact absurd rfl hij
      · exact Or.inl (hq _ (List.mem_of_getElem? (i := 112) (by decide +kernel)))
      · exact Or.inl (hq _ (List.mem_of_getElem? (i := 124) (by decide +kernel)))
      · exact Or.inl (hq _ (List.mem_of_getElem? (i := 139) (by decide +kernel)))
      · exact Or.inl (hq _ (List.mem_of_getElem? (i := 155) (by decide +kernel)))
      · exact Or.inl (hq _ (List.mem_of_getElem? (i := 171) (by decide +kernel)))
      · exact Or.inl (hq _ (List.mem_of_getElem? (i := 187) (by decide +kernel)))
      · exact Or.inr (hq _ (List.mem_of_getElem? (i := 93) (by decide +kernel)))
      · exact Or.inr (hq _ (List.mem_of_getElem? (i := 94) (by decide +kernel)))
      · exact Or.inr (hq _ (List.mem_of_getElem? (i := 95) (by decide +kernel)))
      · exact Or.inr (hq _ (List.mem_of_getElem? (i := 96) (by decide +kernel)))
    · rcases (show j = 0 ∨ j = 1 ∨ j = 2 ∨ j = 3 ∨ j = 4 ∨ j = 5 ∨ j = 6 ∨ j = 7 ∨ j = 8 ∨ j = 9 ∨ j = 10 by omega) with rfl | rfl | rfl | rfl | rfl | rfl | rfl | rfl | rfl | rfl | rfl
      · exact Or.inr (hq _ (List.mem_of_getElem? (i := 112) (by decide +kernel)))
      · exact absurd rfl hij
      · exact Or.inl (hq _ (List.mem_of_getElem? (i := 125) (by decide +kernel)))
      · exact Or.inl (hq _ (List.mem_of_getElem? (i := 140) (by decide +kernel)))
      · exact Or.inl (hq _ (List.mem_of_getElem? (i := 156) (by decide +kernel)))
      · exact Or.inl (hq _ (List.mem_of_getElem? (i := 172) (by decide +kernel)))
      · exact Or.inl (hq _ (List.mem_of_getElem? (i := 188) (by decide +kernel)))
      · exact Or.inr (hq _ (List.mem_of_getElem? (i := 108) (by decide +kernel)))
      · exact Or.inr (hq _ (List.mem_of_getElem? (i := 109) (by decide +kernel)))
      · exact Or.inr (hq _ (List.mem_of_getElem? (i := 110) (by decide +kernel)))
      · exact Or.inr (hq _ (List.mem_of_getElem? (i := 111) (by decide +kernel)))
    · rcases (show j = 0 ∨ j = 1 ∨ j = 2 ∨ j = 3 ∨ j = 4 ∨ j = 5 ∨ j = 6 ∨ j = 7 ∨ j = 8 ∨ j = 9 ∨ j = 10 by omega) with rfl | rfl | rfl | rfl | rfl | rfl | rfl | rfl | rfl | rfl | rfl
      · exact Or.inr (hq _ (List.mem_of_getElem? (i := 124) (by decide +kernel)))
      · exact Or.inr (hq _ (List.mem_of_getElem? (i := 125) (by decide +kernel)))
      · exact absurd rfl hij
      · exact Or.inl (hq _ (List.mem_of_getElem? (i := 141) (by decide +kernel)))
      · exact Or.inl (hq _ (List.mem_of_getElem? (i := 157) (by decide +kernel)))
      · exact Or.inl (hq _ (List.mem_of_getElem? (i := 173) (by decide +kernel)))
      · exact Or.inl (hq _ (List.mem_of_getElem? (i := 189) (by decide +kernel)))
      · exact Or.inr (hq _ (List.mem_of_getElem? (i := 120) (by decide +kernel)))
      · exact Or.inr (hq _ (List.mem_of_getElem? (i := 121) (by decide +kernel)))
      · exact Or.inr (hq _ (List.mem_of_getElem? (i := 122) (by decide +kernel)))
      · exact Or.inr (hq _ (List.mem_of_getElem? (i := 123) (by decide +kernel)))
    · rcases (show j = 0 ∨ j = 1 ∨ j = 2 ∨ j = 3 ∨ j = 4 ∨ j = 5 ∨ j = 6 ∨ j = 7 ∨ j = 8 ∨ j = 9 ∨ j = 10 by omega) with rfl | rfl | rfl | rfl | rfl | rfl | rfl | rfl | rfl | rfl | rfl
      · exact Or.inr (hq _ (List.mem_of_getElem? (i := 139) (by decide +kernel)))
      · exact Or.inr (hq _ (List.mem_of_getElem? (i := 140) (by decide +kernel)))
      · exact Or.inr (hq _ (List.mem_of_getElem? (i := 141) (by decide +kernel)))
      · exact absurd rfl hij
      · exact Or.inl (hq _ (List.mem_of_getElem? (i := 158) (by decide +kernel)))
      · exact Or.inl (hq _ (List.mem_of_getElem? (i := 174) (by decide +kernel)))
      · exact Or.inl (hq _ (List.mem_of_getElem? (i := 190) (by decide +kernel)))
      · exact Or.inr (hq _ (List.mem_of_getElem? (i := 135) (by decide +kernel)))
      · exact Or.inr (hq _ (List.mem_of_getElem? (i := 136) (by decide +kernel)))
      · exact Or.inr (hq _ (List.mem_of_getElem? (i := 137) (by decide +kernel)))
      · exact Or.inr (hq _ (List.mem_of_getElem? (i := 138) (by decide +kernel)))
    · rcases (show j = 0 ∨ j = 1 ∨ j = 2 ∨ j = 3 ∨ j = 4 ∨ j = 5 ∨ j = 6 ∨ j = 7 ∨ j = 8 ∨ j = 9 ∨ j = 10 by omega) with rfl | rfl | rfl | rfl | rfl | rfl | rfl | rfl | rfl | rfl | rfl
      · exact Or.inr (hq _ (List.mem_of_getElem? (i := 155) (by decide +kernel)))
      · exact Or.inr (hq _ (List.mem_of_getElem? (i := 156) (by decide +kernel)))
      · exact Or.inr (hq _ (List.mem_of_getElem? (i := 157) (by decide +kernel)))
      · exact Or.inr (hq _ (List.mem_of_getElem? (i := 158) (by decide +kernel)))
      · exact absurd rfl hij
      · exact Or.inl (hq _ (List.mem_of_getElem? (i := 175) (by decide +kernel)))
      · exact Or.inl (hq _ (List.mem_of_getElem? (i := 191) (by decide +kernel)))
      · exact Or.inr (hq _ (List.mem_of_getElem? (i := 151) (by decide +kernel)))
      · exact Or.inr (hq _ (List.mem_of_getElem? (i := 152) (by decide +kernel)))
      · exact Or.inr (hq _ (List.mem_of_getElem? (i := 153) (by decide +kernel)))
      · exact Or.inr (hq _ (List.mem_of_getElem? (i := 154) (by decide +kernel)))
    · rcases (show j = 0 ∨ j = 1 ∨ j = 2 ∨ j = 3 ∨ j = 4 ∨ j = 5 ∨ j = 6 ∨ j = 7 ∨ j = 8 ∨ j = 9 ∨ j = 10 by omega) with rfl | rfl | rfl | rfl | rfl | rfl | rfl | rfl | rfl | rfl | rfl
      · exact Or.inr (hq _ (List.mem_of_getElem? (i := 171) (by decide +kernel)))
      · exact Or.inr (hq _ (List.mem_of_getElem? (i := 172) (by decide +kernel)))
      · exact Or.inr (hq _ (List.mem_of_getElem? (i := 173) (by decide +kernel)))
      · exact Or.inr (hq _ (List.mem_of_getElem? (i := 174) (by decide +kernel)))
      · exact Or.inr (hq _ (List.mem_of_getElem? (i := 175) (by decide +kernel)))
      · exact absurd rfl hij
      · exact Or.inl (hq _ (List.mem_of_getElem? (i := 192) (by decide +kernel)))
      · exact Or.inr (hq _ (List.mem_of_getElem? (i := 167) (by decide +kernel)))
      · exact Or.inr (hq _ (List.mem_of_getElem? (i := 168) (by decide +kernel)))
      · exact Or.inr (hq _ (List.mem_of_getElem? (i := 169) (by decide +kernel)))
      · exact Or.inr (hq _ (List.mem_of_getElem? (i := 170) (by decide +kernel)))
    · rcases (show j = 0 ∨ j = 1 ∨ j = 2 ∨ j = 3 ∨ j = 4 ∨ j = 5 ∨ j = 6 ∨ j = 7 ∨ j = 8 ∨ j = 9 ∨ j = 10 by omega) with rfl | rfl | rfl | rfl | rfl | rfl | rfl | rfl | rfl | rfl | rfl
      · exact Or.inr (hq _ (List.mem_of_getElem? (i := 187) (by decide +kernel)))
      · exact Or.inr (hq _ (List.mem_of_getElem? (i := 188) (by decide +kernel)))
      · exact Or.inr (hq _ (List.mem_of_getElem? (i := 189) (by decide +kernel)))
      · exact Or.inr (hq _ (List.mem_of_getElem? (i := 190) (by decide +kernel)))
      · exact Or.inr (hq _ (List.mem_of_getElem? (i := 191) (by decide +kernel)))
      · exact Or.inr (hq _ (List.mem_of_getElem? (i := 192) (by decide +kernel)))
      · exact absurd rfl hij
      · exact Or.inr (hq _ (List.mem_of_getElem? (i := 183) (by decide +kernel)))
      · exact Or.inr (hq _ (List.mem_of_getElem? (i := 184) (by decide +kernel)))
      · exact Or.inr (hq _ (List.mem_of_getElem? (i := 185) (by decide +kernel)))
      · exact Or.inr (hq _ (List.mem_of_getElem? (i := 186) (by decide +kernel)))
    · rcases (show j = 0 ∨ j = 1 ∨ j = 2 ∨ j = 3 ∨ j = 4 ∨ j = 5 ∨ j = 6 ∨ j = 7 ∨ j = 8 ∨ j = 9 ∨ j = 10 by omega) with rfl | rfl | rfl | rfl | rfl | rfl | rfl | rfl | rfl | rfl | rfl
      · exact Or.inl (hq _ (List.mem_of_getElem? (i := 93) (by decide +kernel)))
      · exact Or.inl (hq _ (List.mem_of_getElem? (i := 108) (by decide +kernel)))
      · exact Or.inl (hq _ (List.mem_of_getElem? (i := 120) (by decide +kernel)))
      · exact Or.inl (hq _ (List.mem_of_getElem? (i := 135) (by decide +kernel)))
      · exact Or.inl (hq _ (List.mem_of_getElem? (i := 151) (by decide +kernel)))
      · exact Or.inl (hq _ (List.mem_of_getElem? (i := 167) (by decide +kernel)))
      · exact Or.inl (hq _ (List.mem_of_getElem? (i := 183) (by decide +kernel)))
      · exact absurd rfl hij
      · exact Or.inl (hq _ (List.mem_of_getElem? (i := 61) (by decide +kernel)))
      · exact Or.inl (hq _ (List.mem_of_getElem? (i := 71) (by decide +kernel)))
      · exact Or.inl (hq _ (List.mem_of_getElem? (i := 81) (by decide +kernel)))
    · rcases (show j = 0 ∨ j = 1 ∨ j = 2 ∨ j = 3 ∨ j = 4 ∨ j = 5 ∨ j = 6 ∨ j = 7 ∨ j = 8 ∨ j = 9 ∨ j = 10 by omega) with rfl | rfl | rfl | rfl | rfl | rfl | rfl | rfl | rfl | rfl | rfl
      · exact Or.inl (hq _ (List.mem_of_getElem? (i := 94) (by decide +kernel)))
      · exact Or.inl (hq _ (List.mem_of_getElem? (i := 109) (by decide +kernel)))
      · exact Or.inl (hq _ (List.mem_of_getElem? (i := 121) (by decide +kernel)))
      · exact Or.inl (hq _ (List.mem_of_getElem? (i := 136) (by decide +kernel)))
      · exact Or.inl (hq _ (List.mem_of_getElem? (i := 152) (by decide +kernel)))
      · exact Or.inl (hq _ (List.mem_of_getElem? (i := 168) (by decide +kernel)))
      · exact Or.inl (hq _ (List.mem_of_getElem? (i := 184) (by decide +kernel)))
      · exact Or.inr (hq _ (List.mem_of_getElem? (i := 61) (by decide +kernel)))
      · exact absurd rfl hij
      · exact Or.inl (hq _ (List.mem_of_getElem? (i := 72) (by decide +kernel)))
      · exact Or.inl (hq _ (List.mem_of_getElem? (i := 82) (by decide +kernel)))
    · rcases (show j = 0 ∨ j = 1 ∨ j = 2 ∨ j = 3 ∨ j = 4 ∨ j = 5 ∨ j = 6 ∨ j = 7 ∨ j = 8 ∨ j = 9 ∨ j = 10 by omega) with rfl | rfl | rfl | rfl | rfl | rfl | rfl | rfl | rfl | rfl | rfl
      · exact Or.inl (hq _ (List.mem_of_getElem? (i := 95) (by decide +kernel)))
      · exact Or.inl (hq _ (List.mem_of_getElem? (i := 110) (by decide +kernel)))
      · exact Or.inl (hq _ (List.mem_of_getElem? (i := 122) (by decide +kernel)))
      · exact Or.inl (hq _ (List.mem_of_getElem? (i := 137) (by decide +kernel)))
      · exact Or.inl (hq _ (List.mem_of_getElem? (i := 153) (by decide +kernel)))
      · exact Or.inl (hq _ (List.mem_of_getElem? (i := 169) (by decide +kernel)))
      · exact Or.inl (hq _ (List.mem_of_getElem? (i := 185) (by decide +kernel)))
      · exact Or.inr (hq _ (List.mem_of_getElem? (i := 71) (by decide +kernel)))
      · exact Or.inr (hq _ (List.mem_of_getElem? (i := 72) (by decide +kernel)))
      · exact absurd rfl hij
      · exact Or.inl (hq _ (List.mem_of_getElem? (i := 83) (by decide +kernel)))
    · rcases (show j = 0 ∨ j = 1 ∨ j = 2 ∨ j = 3 ∨ j = 4 ∨ j = 5 ∨ j = 6 ∨ j = 7 ∨ j = 8 ∨ j = 9 ∨ j = 10 by omega) with rfl | rfl | rfl | rfl | rfl | rfl | rfl | rfl | rfl | rfl | rfl
      · exact Or.inl (hq _ (List.mem_of_getElem? (i := 96) (by decide +kernel)))
      · exact Or.inl (hq _ (List.mem_of_getElem? (i := 111) (by decide +kernel)))
      · exact Or.inl (hq _ (List.mem_of_getElem? (i := 123) (by decide +kernel)))
      · exact Or.inl (hq _ (List.mem_of_getElem? (i := 138) (by decide +kernel)))
      · exact Or.inl (hq _ (List.mem_of_getElem? (i := 154) (by decide +kernel)))
      · exact Or.inl (hq _ (List.mem_of_getElem? (i := 170) (by decide +kernel)))
      · exact Or.inl (hq _ (List.mem_of_getElem? (i := 186) (by decide +kernel)))
      · exact Or.inr (hq _ (List.mem_of_getElem? (i := 81) (by decide +kernel)))
      · exact Or.inr (hq _ (List.mem_of_getElem? (i := 82) (by decide +kernel)))
      · exact Or.inr (hq _ (List.mem_of_getElem? (i := 83) (by decide +kernel)))
      · exact absurd rfl hij
set_option maxHeartbeats 4000000 in
theorem law_zr {p : Program} {s : State} {m : MethodId} {meth : Method} {c : Code} {b L : Nat} {xs : Nat → Int32} (C0 : lw_At p s m meth c b L xs) (adK : Nat → Nat) (h : ∀ i : Nat, i < 11 → (tmS i).eval #[.ref b] s none [] s = some (.ref (adK i))) : ∀ q ∈ strT, vk_R q.1 q.2.1 q.2.2.1 (adK q.2.2.2) s := by
  obtain ⟨-, -, -, -, -, hts, -, -, -, hgv⟩ := id C0
  have hq := flat_of_before _ hgv
  have hA : ∀ a : Nat, a < s.heap.size → ¬ (fun q : Nat => s.heap.size ≤ q) a := fun a h z => Nat.not_lt.mpr z h
  have a0 := h 0 (by decide)
  have t0 : vk_R "CarelessMist$Tape" 100 "thing" (adK 0) s := vk_R.of (hts _ (List.mem_of_getElem? (i := 585) (by decide +kernel))) a0
  have u0 : vk_R "CarelessMistModel" 27 "thing" (adK 0) s := vk_R.of (hts _ (List.mem_of_getElem? (i := 679) (by decide +kernel))) (va_eqR (hq _ (List.mem_of_getElem? (i := 206) (by decide +kernel))) a0)
  have a1 := h 1 (by decide)
  have t1 : vk_R "CarelessMist$Tape" 102 "steeple" (adK 1) s := vk_R.of (hts _ (List.mem_of_getElem? (i := 586) (by decide +kernel))) a1
  have u1 : vk_R "CarelessMistModel" 29 "steeple" (adK 1) s := vk_R.of (hts _ (List.mem_of_getElem? (i := 680) (by decide +kernel))) (va_eqR (hq _ (List.mem_of_getElem? (i := 229) (by decide +kernel))) a1)
  have a2 := h 2 (by decide)
  have t2 : vk_R "CarelessMist$Tape" 106 "cow" (adK 2) s := vk_R.of (hts _ (List.mem_of_getElem? (i := 587) (by decide +kernel))) a2
  have u2 : vk_R "CarelessMistModel" 31 "cow" (adK 2) s := vk_R.of (hts _ (List.mem_of_getElem? (i := 681) (by decide +kernel))) (va_eqR (hq _ (List.mem_of_getElem? (i := 249) (by decide +kernel))) a2)
  have a3 := h 3 (by decide)
  have t3 : vk_R "CarelessMist$Tape" 108 "child" (adK 3) s := vk_R.of (hts _ (List.mem_of_getElem? (i := 588) (by decide +kernel))) a3
  have u3 : vk_R "CarelessMistModel" 33 "child" (adK 3) s := vk_R.of (hts _ (List.mem_of_getElem? (i := 682) (by decide +kernel))) (va_eqR (hq _ (List.mem_of_getElem? (i := 272) (by decide +kernel))) a3)
  have a4 := h 4 (by decide)
  have t4 : vk_R "CarelessMist$Tape" 110 "lover" (adK 4) s := vk_R.of (hts _ (List.mem_of_getElem? (i := 589) (by decide +kernel))) a4
  have u4 : vk_R "CarelessMistModel" 35 "lover" (adK 4) s := vk_R.of (hts _ (List.mem_of_getElem? (i := 683) (by decide +kernel))) (va_eqR (hq _ (List.mem_of_getElem? (i := 296) (by decide +kernel))) a4)
  have a5 := h 5 (by decide)
  have t5 : vk_R "CarelessMist$Tape" 112 "bill" (adK 5) s := vk_R.of (hts _ (List.mem_of_getElem? (i := 590) (by decide +kernel))) a5
  have u5 : vk_R "CarelessMistModel" 37 "bill" (adK 5) s := vk_R.of (hts _ (List.mem_of_getElem? (i := 684) (by decide +kernel))) (va_eqR (hq _ (List.mem_of_getElem? (i := 320) (by decide +kernel))) a5)
  have a6 := h 6 (by decide)
  have t6 : vk_R "CarelessMist$Tape" 114 "inn" (adK 6) s := vk_R.of (hts _ (List.mem_of_getElem? (i := 591) (by decide +kernel))) a6
  have u6 : vk_R "CarelessMistModel" 39 "inn" (adK 6) s := vk_R.of (hts _ (List.mem_of_getElem? (i := 685) (by decide +kernel))) (va_eqR (hq _ (List.mem_of_getElem? (i := 344) (by decide +kernel))) a6)
  have a7 := h 7 (by decide)
  have t7 : vk_R "CarelessMist$Tape" 38 "walker" (adK 7) s := vk_R.of (hts _ (List.mem_of_getElem? (i := 505) (by decide +kernel))) a7
  have u7 : vk_R "CarelessMistModel" 317 "walker" (adK 7) s := vk_R.of (hts _ (List.mem_of_getElem? (i := 1112) (by decide +kernel))) (va_eqR (hq _ (List.mem_of_getElem? (i := 361) (by decide +kernel))) a7)
  have a8 := h 8 (by decide)
  have t8 : vk_R "CarelessMist$Tape" 83 "pace" (adK 8) s := vk_R.of (hts _ (List.mem_of_getElem? (i := 568) (by decide +kernel))) a8
  have u8 : vk_R "CarelessMistModel" 308 "pace" (adK 8) s := vk_R.of (hts _ (List.mem_of_getElem? (i := 1117) (by decide +kernel))) (va_eqR (hq _ (List.mem_of_getElem? (i := 388) (by decide +kernel))) a8)
  have a9 := h 9 (by decide)
  have t9 : vk_R "CarelessMist$Tape" 89 "cares" (adK 9) s := vk_R.of (hts _ (List.mem_of_getElem? (i := 575) (by decide +kernel))) a9
  have u9 : vk_R "CarelessMistModel" 313 "cares" (adK 9) s := vk_R.of (hts _ (List.mem_of_getElem? (i := 1122) (by decide +kernel))) (va_eqR (hq _ (List.mem_of_getElem? (i := 417) (by decide +kernel))) a9)
  have a10 := h 10 (by decide)
  have t10 : vk_R "CarelessMist$Tape" 47 "turn" (adK 10) s := vk_R.of (hts _ (List.mem_of_getElem? (i := 576) (by decide +kernel))) a10
  have u10 : vk_R "CarelessMistModel" 322 "turn" (adK 10) s := vk_R.of (hts _ (List.mem_of_getElem? (i := 1123) (by decide +kernel))) (va_eqR (hq _ (List.mem_of_getElem? (i := 446) (by decide +kernel))) a10)
  intro q hm
  simp only [strT, List.mem_cons, List.not_mem_nil, or_false] at hm
  rcases hm with rfl | rfl | rfl | rfl | rfl | rfl | rfl | rfl | rfl | rfl | rfl | rfl | rfl | rfl | rfl | rfl | rfl | rfl | rfl | rfl | rfl | rfl
  · exact t0
  · exact t1
  · exact t2
  · exact t3
  · exact t4
  · exact t5
  · exact t6
  · exact t7
  · exact t8
  · exact t9
  · exact t10
  · exact u0
  · exact u1
  · exact u2
  · exact u3
  · exact u4
  · exact u5
  · exact u6
  · exact u7
  · exact u8
  · exact u9
  · exact u10
theorem law_Z {p : Program} {s : State} {m : MethodId} {meth : Method} {c : Code} {b L : Nat} {xs : Nat → Int32} (C0 : lw_At p s m meth c b L xs) : ∃ Z K V : Nat → Nat, ∀ E : QE, eZ E = Z → eK E = K → eV E = V → qZS E (fun q => s.heap.size ≤ q) s s.heap := by
  obtain ⟨-, -, -, -, -, hts, -, -, -, hgv⟩ := id C0
  have hq := flat_of_before _ hgv
  have hA : ∀ a : Nat, a < s.heap.size → ¬ (fun q : Nat => s.heap.size ≤ q) a := fun a h z => Nat.not_lt.mpr z h
  obtain ⟨t0, z0⟩ := law_z0 C0
  obtain ⟨t1, z1⟩ := law_z1 C0
  obtain ⟨t2, z2⟩ := law_z2 C0
  obtain ⟨t3, z3⟩ := law_z3 C0
  obtain ⟨K, V, hS, hK⟩ := law_zs C0
  refine ⟨fun k => [t0, t1, t2, t3].getD k 0, K, V, fun E e1 e2 e3 => ?_⟩
  refine ⟨by rw [e1]; exact z0, by rw [e1]; exact z1, by rw [e1]; exact z2, by rw [e1]; exact z3, ⟨va_Zof (hts _ (List.mem_of_getElem? (i := 519) (by decide +kernel))) (hts _ (List.mem_of_getElem? (i := 76) (by decide +kernel))) (va_eqi (hq _ (List.mem_of_getElem? (i := 28) (by decide +kernel)))) hA, va_Zqof (hts _ (List.mem_of_getElem? (i := 535) (by decide +kernel))) (hts _ (List.mem_of_getElem? (i := 78) (by decide +kernel))) (hq _ (List.mem_of_getElem? (i := 29) (by decide +kernel))) hA⟩, by rw [e2, e3]; exact hS, by rw [e2]; exact law_zr C0 K hK, va_Nw.of rfl (hts _ (List.mem_of_getElem? (i := 566) (by decide +kernel))), va_Nw.of rfl (hts _ (List.mem_of_getElem? (i := 573) (by decide +kernel))), va_Nw.of rfl (hts _ (List.mem_of_getElem? (i := 574) (by decide +kernel)))⟩
