theorem law_K {p : Program} {s : State} {m : MethodId} {meth : Method} {c : Code} {b L : Nat} {xs : Nat → Int32} (C0 : lw_At p s m meth c b L xs) : ∃ (D : va_G) (Cc : Nat → ClassId), ∀ E : QE, eG E = D → eC E = Cc → va_K (eG E) vwC (qTy E) s ∧ qCS E s := by
  obtain ⟨-, -, -, -, -, hts, -, -, -, -⟩ := id C0
  obtain ⟨c0, i0, k0⟩ := u_known (C := "CarelessMist$Common") (T := qT0) (N := 8) (n := 8) hts qi0 (hts _ (List.mem_of_getElem? (i := 89) (by decide +kernel)))
  obtain ⟨c1, i1, k1⟩ := u_known (C := "CarelessMist$Sheet") (T := qT1) (N := 3) (n := 3) hts qi1 (hts _ (List.mem_of_getElem? (i := 165) (by decide +kernel)))
  obtain ⟨c2, i2, k2⟩ := u_known (C := "CarelessMist$Tape") (T := qT2) (N := 6) (n := 6) hts qi2 (hts _ (List.mem_of_getElem? (i := 138) (by decide +kernel)))
  obtain ⟨c3, i3, k3⟩ := u_known (C := "CarelessMist") (T := qT3) (N := 7) (n := 7) hts qi3 (hts _ (List.mem_of_getElem? (i := 81) (by decide +kernel)))
  obtain ⟨c4, i4, k4⟩ := u_known (C := "CarelessMistModel") (T := qT4) (N := 21) (n := 21) hts qi4 (hts _ (List.mem_of_getElem? (i := 672) (by decide +kernel)))
  obtain ⟨cI, kI, cc0, f1, g1, p1⟩ := Cond.arrayClass_spec (hts (.arrayClass .int) (List.mem_of_getElem? (i := 136) (by decide +kernel)))
  obtain ⟨cJ, cII, kII, f2, -, g2, p2, n2⟩ := arrayOverA_spec (hts (.arrayOver (.array .int)) (List.mem_of_getElem? (i := 95) (by decide +kernel)))
  have o1 := hts (.arrayOver (.object "CarelessMist$Sheet")) (List.mem_of_getElem? (i := 164) (by decide +kernel))
  have o2 := hts (.arrayOver (.object "java/lang/String")) (List.mem_of_getElem? (i := 678) (by decide +kernel))
  obtain ⟨cS, cSA, kS, f3, -, g3, p3, n3⟩ := Cond.arrayOver_spec o1
  obtain ⟨cT, cTA, kT, f4, -, g4, p4, n4⟩ := Cond.arrayOver_spec o2
  have e2 : cJ = cI := Option.some.inj (f2.symm.trans f1)
  subst e2
  have l1 := va_Nw.of rfl (hts (.methodLinkNest "CarelessMist" 28 ⟨"CarelessMist$Tape", "<init>", "()V"⟩ "CarelessMist") (List.mem_of_getElem? (i := 139) (by decide +kernel)))
  have l2 := va_Nw.of rfl (hts (.methodLinkNest "CarelessMist" 39 ⟨"CarelessMist$Sheet", "<init>", "()V"⟩ "CarelessMist") (List.mem_of_getElem? (i := 166) (by decide +kernel)))
  refine ⟨(fun k => [c0, c1, c2, c3, c4].getD k c0, fun k => [i0, i1, i2, i3, i4].getD k i0), fun k => [cJ, cSA, cII, cTA].getD k cJ, fun E e1 e2 => ?_⟩
  refine ⟨⟨fun k q hq => ?_, fun k q hq => ?_⟩, va_AO.of o1, va_AO.of o2, ⟨kII, by rw [e2]; exact g2, by rw [e2]; exact p2⟩, l1, l2⟩
  · rw [e1]
    match k, hq with
    | 0, hq => cases hq; exact k0
    | 1, hq => cases hq; exact k1
    | 2, hq => cases hq; exact k2
    | 3, hq => cases hq; exact k3
    | 4, hq => cases hq; exact k4
    | k + 5, hq => simp [vwC] at hq
  · have hq : [(eC E 0, FieldType.int), (eC E 1, .object "CarelessMist$Sheet"), (eC E 2, .array .int), (eC E 3, .object "java/lang/String")][k]? = some q := hq
    rw [e2] at hq
    match k, hq with
    | 0, hq => cases hq; exact ⟨fun n z => ⟨fun k h => (by cases h), kI, g1, cc0, p1⟩, f1⟩
    | 1, hq => cases hq; exact ⟨fun n z => ⟨fun k h => (by cases h), kS, g3, cS, p3⟩, kS, cS, g3, p3, f3, n3⟩
    | 2, hq => cases hq; exact ⟨fun n z => ⟨fun k h => (by cases h), kII, g2, cJ, p2⟩, n2⟩
    | 3, hq => cases hq; exact ⟨fun n z => ⟨fun k h => (by cases h), kT, g4, cT, p4⟩, kT, cT, g4, p4, f4, n4⟩
    | k + 4, hq => simp at hq
set_option maxHeartbeats 4000000 in
set_option maxRecDepth 100000 in
theorem law_start {p : Program} {l : Launch} {e : Env} {s : State} {m : MethodId} {below : List Frame} {meth : Method} {c : Code} {b L : Nat} {xs : Nat → Int32} {J : QM → Prop} (hL : L ≤ 3072) (C0 : lw_At p s m meth c b L xs) (hJ : J S0) (h_turn : ∀ E, qH_turn E l J) (h_listed : ∀ E, qH_listed E l J) (h_thing : ∀ E, qH_thing E l J) (h_walker : ∀ E, qH_walker E l J) (h_of : ∀ E, qH_of E l J) (h_change : ∀ E, qH_change E l J) (h_ofWalker : ∀ E, qH_ofWalker E l J) (h_lead : ∀ E, qH_lead E l J) (h_sees : ∀ E, qH_sees E l J) (h_seenBy : ∀ E, qH_seenBy E l J) (h_go : ∀ E, qH_go E l J) (h_now : ∀ E, qH_now E l J) (h_ahead : ∀ E, qH_ahead E l J) (h_later : ∀ E, qH_later E l J) (h_arrives : ∀ E, qH_arrives E l J) (h_spies : ∀ E, qH_spies E l J) (h_meet : ∀ E, qH_meet E l J) (h_startFor : ∀ E, qH_startFor E l J) (h_aimFor : ∀ E, qH_aimFor E l J) (h_kindFor : ∀ E, qH_kindFor E l J) (h_paceFor : ∀ E, qH_paceFor E l J) (h_giveUp : ∀ E, qH_giveUp E l J) (h_fits : ∀ E, qH_fits E l J) (h_kinds : ∀ E, qH_kinds E l J) (h_morning : ∀ E, qH_morning E l J) (h_odds : ∀ E, qH_odds E l J) (h_seed : ∀ E, qH_seed E l J) (h_feed : ∀ E, qH_feed E l J) (h_wipe : ∀ E, qH_wipe E l J) (h_text : ∀ E, qH_text E l J) (h_hold : ∀ E, qH_hold E l J) (h_as : ∀ E, qH_as E l J) (h_sheet : ∀ E, qH_sheet E l J) (h_write : ∀ E, qH_write E l J) (h_copy : ∀ E, qH_copy E l J) (h_load : ∀ E, qH_load E l J) (h_judge : ∀ E, qH_judge E l J) (h_image : ∀ E, qH_image E l J) (h_undo : ∀ E, qH_undo E l J) (h_tear : ∀ E, qH_tear E l J) (h_count : ∀ E, qH_count E l J) (h_status : ∀ E, qH_status E l J) : W p l e room_1 s m #[Value.ref b] below meth c s.heap [] 0 0 (lw_Z below #[Value.ref b] s) (entryFrame m ([Value.ref b] : List Value).toArray 4) := by
  obtain ⟨hx, hb, hr, hml, hown, hts, hX, hbl, hlocks, hgv⟩ := id C0
  obtain ⟨Z, K, V, hZ⟩ := law_Z C0
  obtain ⟨D, Cc, hK⟩ := law_K C0
  obtain ⟨E0, hE⟩ : ∃ E : QE, E = (D, (fun _ => 0), Cc, Z, K, V) := ⟨_, rfl⟩
  have z1 := hZ E0 (by rw [hE]; rfl) (by rw [hE]; rfl) (by rw [hE]; rfl)
  have k1 := hK E0 (by rw [hE]; rfl) (by rw [hE]; rfl)
  have X : qXc E0 (fun q => s.heap.size ≤ q) p s m #[.ref b] meth c code 4 ret "CarelessMistLaw" := ⟨hx, hb, hml, hown, fun w hw => hts w (qTB_sub w hw), k1.1, z1, k1.2, hr, hlocks, fun _ h => h⟩
  have hP : va_P (eG E0) vwC [] s.heap := fun k q h => by simp at h
  have hD : va_D (fun q : Nat => s.heap.size ≤ q) [] := ⟨fun i j p q h => by simp at h, fun k q h => by simp at h⟩
  have hS : va_S (fun q : Nat => s.heap.size ≤ q) s.heap s.heap [] := va_S.rf
  have hl := lv_entry ([.ref b]) (n := 4) (Nat.le_of_ble_eq_true rfl)
  rw [lg_entry_eq]
  generalize (lg_sl ([.ref b]) ++ List.replicate (4 - (lg_sl ([.ref b])).length) Slot.unset).toArray = ls at hl ⊢
  have hl : lv_has ls 4 [(0, .ref b)] := hl
  refine qN_make X hP hD hS (C := "CarelessMist") (T := qT3) (N := 7) (ci := 3) (y := y_X_init) (fs := [.null, .null, .null, .int 0, .null, .null, .null]) qj3 qt3 qp3 rfl (fun j hj => by rcases (show j = 0 ∨ j = 1 ∨ j = 2 ∨ j = 3 ∨ j = 4 ∨ j = 5 ∨ j = 6 by omega) with rfl | rfl | rfl | rfl | rfl | rfl | rfl <;> rfl) ⟨(qTB_in (w := .classLink "CarelessMistLaw" 7 "CarelessMist") (i := 80) (by decide +kernel) rfl), (qTB_in (w := .instantiable "CarelessMist" 7) (i := 81) (by decide +kernel) rfl), (qTB_in (w := .initialized "CarelessMist") (i := 66) (by decide +kernel) rfl)⟩ (fun q => c_X_init l E0 q) ⟨(qTB_in (w := .code y_X_init prog_1_method_1_code 2 none) (i := 84) (by decide +kernel) rfl), (qTB_in (w := .initialized "CarelessMist") (i := 66) (by decide +kernel) rfl), (qTB_in (w := .instanceMethod y_X_init) (i := 83) (by decide +kernel) rfl)⟩ rfl ⟨by decide, by decide, by decide +kernel⟩ mw_82 ⟨by decide, by decide⟩ hl.1 (Nat.le_of_ble_eq_true rfl) (Nat.le_of_ble_eq_true rfl) (Nat.le_of_ble_eq_true rfl) d_law_0 d_law_3 d_law_4 (fun q w H locs hw hP hD hS => ?_)
  obtain ⟨u, rfl, rfl⟩ := hw
  have hP : va_P (eG E0) vwC (xL E0 u) H := hP
  have hD : va_D (fun q : Nat => s.heap.size ≤ q) (xL E0 u) := hD
  refine W.widen (k := 70) (n := 610) (by omega) (by omega) ?_
  refine lv_astore_n (lv' := [(1, .ref (u 0)), (0, .ref b)]) X.x X.b d_law_7 rfl hl (by decide) rfl (fun ls hl => ?_)
  refine qN_make X hP hD hS (C := "CarelessMistModel") (T := qT4) (N := 21) (ci := 4) (y := y_R_init) (fs := [.null, .null, .null, .int 0, .null, .null, .int 0, .int 0, .int 0, .int 0, .int 0, .int 0, .null, .null, .int 0, .int 0, .int 0, .null, .null, .null, .null]) qj4 qt4 qp4 rfl (fun j hj => by rcases (show j = 0 ∨ j = 1 ∨ j = 2 ∨ j = 3 ∨ j = 4 ∨ j = 5 ∨ j = 6 ∨ j = 7 ∨ j = 8 ∨ j = 9 ∨ j = 10 ∨ j = 11 ∨ j = 12 ∨ j = 13 ∨ j = 14 ∨ j = 15 ∨ j = 16 ∨ j = 17 ∨ j = 18 ∨ j = 19 ∨ j = 20 by omega) with rfl | rfl | rfl | rfl | rfl | rfl | rfl | rfl | rfl | rfl | rfl | rfl | rfl | rfl | rfl | rfl | rfl | rfl | rfl | rfl | rfl <;> rfl) ⟨(qTB_in (w := .classLink "CarelessMistLaw" 10 "CarelessMistModel") (i := 671) (by decide +kernel) rfl), (qTB_in (w := .instantiable "CarelessMistModel" 21) (i := 672) (by decide +kernel) rfl), (qTB_in (w := .initialized "CarelessMistModel") (i := 71) (by decide +kernel) rfl)⟩ (fun q => c_R_init l E0 q) ⟨(qTB_in (w := .code y_R_init prog_7_method_1_code 2 none) (i := 675) (by decide +kernel) rfl), (qTB_in (w := .initialized "CarelessMistModel") (i := 71) (by decide +kernel) rfl), (qTB_in (w := .instanceMethod y_R_init) (i := 674) (by decide +kernel) rfl)⟩ rfl ⟨by decide, by decide, by decide +kernel⟩ mw_673 ⟨by decide, by decide⟩ hl.1 (Nat.le_of_ble_eq_true rfl) (Nat.le_of_ble_eq_true rfl) (Nat.le_of_ble_eq_true rfl) d_law_8 d_law_11 d_law_12 (fun q w H locs hw hP hD hS => ?_)
  obtain ⟨v, rfl, rfl⟩ := hw
  refine W.widen (k := 82) (n := 1814) (by omega) (by omega) ?_
  refine lv_astore_n (lv' := [(2, .ref (v 0)), (1, .ref (u 0)), (0, .ref b)]) X.x X.b d_law_15 rfl hl (by decide) rfl (fun ls hl => ?_)
  refine lv_iconst (v := nI 0) X.x X.b d_law_16 (by decide) ?_
  refine lv_istore_n (lv' := [(3, .int (nI 0)), (2, .ref (v 0)), (1, .ref (u 0)), (0, .ref b)]) X.x X.b d_law_17 rfl hl (by decide) rfl (fun ls hl => ?_)
  have hP2 := LW_P hP
  have hD2 := LW_D hD
  have hl2 : lv_has ls 4 [(3, .int (nI 0)), (2, .ref (eA (fE E0 u v) 70)), (1, .ref (eA (fE E0 u v) 0)), (0, .ref b)] := hl
  have hnew : ∀ q, qAA (fE E0 u v) s.heap.size q → s.heap.size ≤ q := by
    intro q h
    rcases h with ⟨k, hk, rfl⟩ | h
    · exact hD2.2 k _ (LW_atA hk)
    · exact h
  have zf := hZ (fE E0 u v) (by rw [hE]; rfl) (by rw [hE]; rfl) (by rw [hE]; rfl)
  have kf := hK (fE E0 u v) (by rw [hE]; rfl) (by rw [hE]; rfl)
  have Xf : qX (fE E0 u v) p s m #[.ref b] meth c code 4 ret "CarelessMistLaw" := ⟨hx, hb, hml, hown, fun w hw => hts w (qTB_sub w hw), kf.1, zf.go (State.WarmedH.refl s) (fun _ _ _ => rfl) hnew, hr, hlocks⟩
  have hW : qWH (fE E0 u v) S0 s H locs := ⟨hP2, qD_self hD2, hS.1, fun q h1 h2 => hS.2.1 q h1 (fun z => h2 (Or.inr z)), fun q hq => Or.inr (hS.2.2 q hq)⟩
  exact law_loop Xf hX hbl (fun z => Nat.not_lt.mpr (hnew _ z) hbl) hnew hL (h_turn _) (h_listed _) (h_thing _) (h_walker _) (h_of _) (h_change _) (h_ofWalker _) (h_lead _) (h_sees _) (h_seenBy _) (h_go _) (h_now _) (h_ahead _) (h_later _) (h_arrives _) (h_spies _) (h_meet _) (h_startFor _) (h_aimFor _) (h_kindFor _) (h_paceFor _) (h_giveUp _) (h_fits _) (h_kinds _) (h_morning _) (h_odds _) (h_seed _) (h_feed _) (h_wipe _) (h_text _) (h_hold _) (h_as _) (h_sheet _) (h_write _) (h_copy _) (h_load _) (h_judge _) (h_image _) (h_undo _) (h_tear _) (h_count _) (h_status _) (L - 0 + 1) 0 (Nat.zero_le _) (Nat.lt_succ_self _) S0 H locs ls hJ hW (lv_sub hl2 [0, 3, 2, 1] rfl)
