def qOpI (E : QE) (l : Launch) (y1 : MethodName) (b1 : ByteArray) (n1 : Nat) (y2 : MethodName) (b2 : ByteArray) (n2 : Nat) (as : List Value) (J : QM → Prop) (S : QM) : Prop := ∃ (d1 d2 : Nat) (r : Int32) (P : QM → Prop), d1 ≤ 11 ∧ d2 ≤ 11 ∧ qCPi E l y1 b1 n1 .int d1 (.ref (eA E 0) :: as) S r P ∧ ∀ u, P u → ∃ P', qCPi E l y2 b2 n2 .int d2 (.ref (eA E 70) :: as) u r P' ∧ ∀ v, P' v → J v
def qOpL (E : QE) (l : Launch) (y1 : MethodName) (b1 : ByteArray) (n1 : Nat) (y2 : MethodName) (b2 : ByteArray) (n2 : Nat) (as : List Value) (J : QM → Prop) (S : QM) : Prop := ∃ (d1 d2 : Nat) (r : Int64) (P : QM → Prop), d1 ≤ 11 ∧ d2 ≤ 11 ∧ qCPl E l y1 b1 n1 d1 (.ref (eA E 0) :: as) S r P ∧ ∀ u, P u → ∃ P', qCPl E l y2 b2 n2 d2 (.ref (eA E 70) :: as) u r P' ∧ ∀ v, P' v → J v
def qH_turn (E : QE) (l : Launch) (J : QM → Prop) : Prop := ∀ S, J S → ∀ (a1 a2 a3 : Int32), qOpI E l y_X_turn prog_1_method_2_code 5 y_R_turn prog_7_method_14_code 4 [.int a1, .int a2, .int a3] J S
def qH_listed (E : QE) (l : Launch) (J : QM → Prop) : Prop := ∀ S, J S → ∀ (a1 : Int32), qOpI E l y_X_listed prog_1_method_3_code 2 y_R_listed prog_7_method_15_code 2 [.int a1] J S
def qH_thing (E : QE) (l : Launch) (J : QM → Prop) : Prop := ∀ S, J S → ∀ (a1 a2 : Int32), qOpI E l y_X_thing prog_1_method_4_code 3 y_R_thing prog_7_method_25_code 3 [.int a1, .int a2] J S
def qH_walker (E : QE) (l : Launch) (J : QM → Prop) : Prop := ∀ S, J S → ∀ (a1 a2 : Int32), qOpI E l y_X_walker prog_1_method_5_code 3 y_R_walker prog_7_method_27_code 3 [.int a1, .int a2] J S
def qH_of (E : QE) (l : Launch) (J : QM → Prop) : Prop := ∀ S, J S → ∀ (a1 a2 : Int32), qOpI E l y_X_of prog_1_method_6_code 4 y_R_of prog_7_method_33_code 3 [.int a1, .int a2] J S
def qH_change (E : QE) (l : Launch) (J : QM → Prop) : Prop := ∀ S, J S → ∀ (a1 a2 a3 : Int32), qOpI E l y_X_change prog_1_method_7_code 5 y_R_change prog_7_method_34_code 5 [.int a1, .int a2, .int a3] J S
def qH_ofWalker (E : QE) (l : Launch) (J : QM → Prop) : Prop := ∀ S, J S → ∀ (a1 a2 : Int32), qOpI E l y_X_ofWalker prog_1_method_8_code 3 y_R_ofWalker prog_7_method_35_code 3 [.int a1, .int a2] J S
def qH_lead (E : QE) (l : Launch) (J : QM → Prop) : Prop := ∀ S, J S → ∀ (a1 a2 a3 : Int32), qOpI E l y_X_lead prog_1_method_9_code 5 y_R_lead prog_7_method_37_code 4 [.int a1, .int a2, .int a3] J S
def qH_sees (E : QE) (l : Launch) (J : QM → Prop) : Prop := ∀ S, J S → ∀ (a1 : Int32), qOpI E l y_X_sees prog_1_method_10_code 4 y_R_sees prog_7_method_40_code 4 [.int a1] J S
def qH_seenBy (E : QE) (l : Launch) (J : QM → Prop) : Prop := ∀ S, J S → ∀ (a1 : Int32), qOpI E l y_X_seenBy prog_1_method_11_code 2 y_R_seenBy prog_7_method_42_code 2 [.int a1] J S
def qH_go (E : QE) (l : Launch) (J : QM → Prop) : Prop := ∀ S, J S → ∀ (a1 : Int32), qOpI E l y_X_go prog_1_method_12_code 3 y_R_go prog_7_method_50_code 2 [.int a1] J S
def qH_now (E : QE) (l : Launch) (J : QM → Prop) : Prop := ∀ S, J S → ∀ (a1 : Int32), qOpI E l y_X_now prog_1_method_13_code 2 y_R_now prog_7_method_56_code 2 [.int a1] J S
def qH_ahead (E : QE) (l : Launch) (J : QM → Prop) : Prop := ∀ S, J S → ∀ (a1 a2 a3 : Int32), qOpI E l y_X_ahead prog_1_method_14_code 4 y_R_ahead prog_7_method_58_code 4 [.int a1, .int a2, .int a3] J S
def qH_later (E : QE) (l : Launch) (J : QM → Prop) : Prop := ∀ S, J S → ∀ (a1 a2 a3 : Int32), qOpI E l y_X_later prog_1_method_15_code 5 y_R_later prog_7_method_59_code 5 [.int a1, .int a2, .int a3] J S
def qH_arrives (E : QE) (l : Launch) (J : QM → Prop) : Prop := ∀ S, J S → ∀ (a1 a2 : Int32), qOpI E l y_X_arrives prog_1_method_16_code 4 y_R_arrives prog_7_method_60_code 4 [.int a1, .int a2] J S
def qH_spies (E : QE) (l : Launch) (J : QM → Prop) : Prop := ∀ S, J S → ∀ (a1 a2 : Int32), qOpI E l y_X_spies prog_1_method_17_code 4 y_R_spies prog_7_method_61_code 4 [.int a1, .int a2] J S
def qH_meet (E : QE) (l : Launch) (J : QM → Prop) : Prop := ∀ S, J S → ∀ (a1 a2 : Int32), qOpI E l y_X_meet prog_1_method_18_code 4 y_R_meet prog_7_method_63_code 4 [.int a1, .int a2] J S
def qH_startFor (E : QE) (l : Launch) (J : QM → Prop) : Prop := ∀ S, J S → ∀ (a1 a2 : Int32), qOpI E l y_X_startFor prog_1_method_19_code 3 y_R_startFor prog_7_method_66_code 3 [.int a1, .int a2] J S
def qH_aimFor (E : QE) (l : Launch) (J : QM → Prop) : Prop := ∀ S, J S → ∀ (a1 a2 : Int32), qOpI E l y_X_aimFor prog_1_method_20_code 3 y_R_aimFor prog_7_method_67_code 3 [.int a1, .int a2] J S
def qH_kindFor (E : QE) (l : Launch) (J : QM → Prop) : Prop := ∀ S, J S → ∀ (a1 a2 : Int32), qOpI E l y_X_kindFor prog_1_method_21_code 7 y_R_kindFor prog_7_method_68_code 3 [.int a1, .int a2] J S
def qH_paceFor (E : QE) (l : Launch) (J : QM → Prop) : Prop := ∀ S, J S → ∀ (a1 a2 : Int32), qOpI E l y_X_paceFor prog_1_method_22_code 5 y_R_paceFor prog_7_method_70_code 7 [.int a1, .int a2] J S
def qH_giveUp (E : QE) (l : Launch) (J : QM → Prop) : Prop := ∀ S, J S → ∀ (a1 a2 : Int32), qOpI E l y_X_giveUp prog_1_method_23_code 9 y_R_giveUp prog_7_method_71_code 7 [.int a1, .int a2] J S
def qH_fits (E : QE) (l : Launch) (J : QM → Prop) : Prop := ∀ S, J S → ∀ (a1 a2 : Int32), qOpI E l y_X_fits prog_1_method_24_code 6 y_R_fits prog_7_method_75_code 4 [.int a1, .int a2] J S
def qH_kinds (E : QE) (l : Launch) (J : QM → Prop) : Prop := ∀ S, J S → ∀ (a1 a2 : Int32), qOpI E l y_X_kinds prog_1_method_25_code 6 y_R_kinds prog_7_method_76_code 4 [.int a1, .int a2] J S
def qH_morning (E : QE) (l : Launch) (J : QM → Prop) : Prop := ∀ S, J S → ∀ (a1 : Int32), qOpI E l y_X_morning prog_1_method_26_code 5 y_R_morning prog_7_method_78_code 5 [.int a1] J S
def qH_odds (E : QE) (l : Launch) (J : QM → Prop) : Prop := ∀ S, J S → ∀ (a1 a2 a3 a4 : Int32), qOpL E l y_X_odds prog_1_method_27_code 7 y_R_odds prog_7_method_79_code 13 [.int a1, .int a2, .int a3, .int a4] J S
def qH_seed (E : QE) (l : Launch) (J : QM → Prop) : Prop := ∀ S, J S → ∀ (a1 : Int32), qOpI E l y_X_seed prog_1_method_28_code 3 y_R_seed prog_7_method_80_code 2 [.int a1] J S
def qH_feed (E : QE) (l : Launch) (J : QM → Prop) : Prop := ∀ S, J S → ∀ (a1 a2 : Int32), qOpI E l y_X_feed prog_1_method_29_code 3 y_R_feed prog_7_method_81_code 4 [.int a1, .int a2] J S
def qH_wipe (E : QE) (l : Launch) (J : QM → Prop) : Prop := ∀ S, J S → qOpI E l y_X_wipe prog_1_method_30_code 2 y_R_wipe prog_7_method_82_code 2 [] J S
def qH_text (E : QE) (l : Launch) (J : QM → Prop) : Prop := ∀ S, J S → qOpI E l y_X_text prog_1_method_31_code 2 y_R_text prog_7_method_94_code 2 [] J S
def qH_hold (E : QE) (l : Launch) (J : QM → Prop) : Prop := ∀ S, J S → ∀ (a1 a2 : Int32), qOpI E l y_X_hold prog_1_method_32_code 3 y_R_hold prog_7_method_96_code 3 [.int a1, .int a2] J S
def qH_as (E : QE) (l : Launch) (J : QM → Prop) : Prop := ∀ S, J S → ∀ (a1 a2 : Int32), qOpI E l y_X_as prog_1_method_33_code 4 y_R_as prog_7_method_97_code 4 [.int a1, .int a2] J S
def qH_sheet (E : QE) (l : Launch) (J : QM → Prop) : Prop := ∀ S, J S → ∀ (a1 a2 a3 : Int32), qOpI E l y_X_sheet prog_1_method_34_code 5 y_R_sheet prog_7_method_100_code 5 [.int a1, .int a2, .int a3] J S
def qH_write (E : QE) (l : Launch) (J : QM → Prop) : Prop := ∀ S, J S → ∀ (a1 a2 a3 : Int32), qOpI E l y_X_write prog_1_method_35_code 5 y_R_write prog_7_method_101_code 4 [.int a1, .int a2, .int a3] J S
def qH_copy (E : QE) (l : Launch) (J : QM → Prop) : Prop := ∀ S, J S → ∀ (a1 a2 a3 a4 a5 : Int32), qOpI E l y_X_copy prog_1_method_36_code 6 y_R_copy prog_7_method_102_code 7 [.int a1, .int a2, .int a3, .int a4, .int a5] J S
def qH_load (E : QE) (l : Launch) (J : QM → Prop) : Prop := ∀ S, J S → ∀ (a1 : Int32), qOpI E l y_X_load prog_1_method_37_code 5 y_R_load prog_7_method_105_code 3 [.int a1] J S
def qH_judge (E : QE) (l : Launch) (J : QM → Prop) : Prop := ∀ S, J S → ∀ (a1 : Int32), qOpI E l y_X_judge prog_1_method_38_code 5 y_R_judge prog_7_method_106_code 3 [.int a1] J S
def qH_image (E : QE) (l : Launch) (J : QM → Prop) : Prop := ∀ S, J S → qOpI E l y_X_image prog_1_method_39_code 1 y_R_image prog_7_method_107_code 1 [] J S
def qH_undo (E : QE) (l : Launch) (J : QM → Prop) : Prop := ∀ S, J S → qOpI E l y_X_undo prog_1_method_40_code 1 y_R_undo prog_7_method_108_code 1 [] J S
def qH_tear (E : QE) (l : Launch) (J : QM → Prop) : Prop := ∀ S, J S → qOpI E l y_X_tear prog_1_method_41_code 2 y_R_tear prog_7_method_109_code 2 [] J S
def qH_count (E : QE) (l : Launch) (J : QM → Prop) : Prop := ∀ S, J S → ∀ (a1 : Int32), qOpI E l y_X_count prog_1_method_42_code 2 y_R_count prog_7_method_110_code 4 [.int a1] J S
def qH_status (E : QE) (l : Launch) (J : QM → Prop) : Prop := ∀ S, J S → ∀ (a1 : Int32), qOpI E l y_X_status prog_1_method_43_code 4 y_R_status prog_7_method_111_code 2 [.int a1] J S
theorem lcmp_self (r : Int64) : lg_cmp r r = 0 := by
  unfold lg_cmp
  have h : ¬ r > r := by
    rw [gt_iff_lt, Int64.lt_iff_toInt_lt]
    omega
  rw [if_neg h, if_pos rfl]
theorem law_end {L i : Nat} (hL : L ≤ 3072) (hi : i ≤ L) : (Int32.ofNat L - nI 6 < nI i) ↔ L < i + 6 := by
  show (nI L - nI 6 < nI i) ↔ _
  by_cases h : 6 ≤ L
  · rw [pk_sub h, nI_ltI (by omega) (by omega)]
    omega
  · have key : ∀ L, L < 6 → ∀ i, i < 6 → nI L - nI 6 < nI i := by decide +kernel
    exact ⟨fun _ => by omega, fun _ => key L (by omega) i (by omega)⟩
set_option maxHeartbeats 1000000 in
theorem law_turn {p : Program} {l : Launch} {e : Env} {s : State} {m : MethodId} {below : List Frame} {meth : Method} {c : Code} {H : Heap} {locs : List Loc} {Q : State → Prop} {ls : Array Slot} {E : QE} {S : QM} {J : QM → Prop} {rt : Option FieldType} {b L i : Nat} {xs : Nat → Int32} (X : qX E p s m #[.ref b] meth c code 4 rt "CarelessMistLaw") (hX : va_X b L xs s s.heap) (hbl : b < s.heap.size) (hbA : ¬ qAA E s.heap.size b) (hi : i + 6 ≤ L) (hL : L ≤ 3072) (h : qH_turn E l J) (hJ : J S) (hW : qWH E S s H locs) (hl : lv_has ls 4 [(3, .int (nI i)), (0, .ref b), (1, .ref (eA E 0)), (2, .ref (eA E 70))])
    (kk : ∀ (S : QM) (H : Heap) (locs : List Loc), J S → qWH E S s H locs → W p l e room_1 s m #[.ref b] below meth c H locs 82 1814 Q (F0 m 1513 ls [])) : W p l e room_1 s m #[.ref b] below meth c H locs 82 1814 Q (F0 m 216 ls []) := by
  obtain ⟨d1, d2, r, P, h1, h2, c1, h3⟩ := h S hJ (xs (i + 1)) (xs (i + 2)) (xs (i + 3))
  refine lv_aload_n X.x X.b d_law_216 rfl (lv_at hl 2 rfl) ?_
  refine lv_aload_n X.x X.b d_law_217 rfl (lv_at hl 1 rfl) ?_
  refine lv_iload_n X.x X.b d_law_218 rfl (lv_at hl 0 rfl) ?_
  refine lv_iconst (v := nI 1) X.x X.b d_law_219 (by decide) ?_
  refine lv_iadd X.x X.b d_law_220 ?_
  rw [nI_add]
  refine va_sld X.x X.b hX hbl hbA hW.2.2 (q_in (show i + 1 < L by omega) (by omega)) d_law_221 ?_
  rw [nI_clamp (by omega)]
  refine lv_aload_n X.x X.b d_law_222 rfl (lv_at hl 1 rfl) ?_
  refine lv_iload_n X.x X.b d_law_223 rfl (lv_at hl 0 rfl) ?_
  refine lv_iconst (v := nI 2) X.x X.b d_law_224 (by decide) ?_
  refine lv_iadd X.x X.b d_law_225 ?_
  rw [nI_add]
  refine va_sld X.x X.b hX hbl hbA hW.2.2 (q_in (show i + 2 < L by omega) (by omega)) d_law_226 ?_
  rw [nI_clamp (by omega)]
  refine lv_aload_n X.x X.b d_law_227 rfl (lv_at hl 1 rfl) ?_
  refine lv_iload_n X.x X.b d_law_228 rfl (lv_at hl 0 rfl) ?_
  refine lv_iconst (v := nI 3) X.x X.b d_law_229 (by decide) ?_
  refine lv_iadd X.x X.b d_law_230 ?_
  rw [nI_add]
  refine va_sld X.x X.b hX hbl hbA hW.2.2 (q_in (show i + 3 < L by omega) (by omega)) d_law_231 ?_
  rw [nI_clamp (by omega)]
  refine q_cvip X c1 hW (q_recv X hW ds_X rfl) ok_X_turn mw_205 ⟨by show d1 + 1 ≤ 13; omega, by show 8 + (5 + 11) + 39 * d1 ≤ 512; omega⟩ (As := [.int (xs (i + 1)), .int (xs (i + 2)), .int (xs (i + 3))]) rfl rfl (Nat.le_of_ble_eq_true rfl) (lv := [(3, .int (nI i)), (0, .ref b), (1, .ref (eA E 0)), (2, .ref (eA E 70))]) hl ⟨Nat.le_of_ble_eq_true rfl, Nat.le_of_ble_eq_true rfl⟩ d_law_232 (fun H locs u hu hW => ?_)
  obtain ⟨P', c2, h4⟩ := h3 u hu
  refine lv_aload_n X.x X.b d_law_235 rfl (lv_at hl 3 rfl) ?_
  refine lv_aload_n X.x X.b d_law_236 rfl (lv_at hl 1 rfl) ?_
  refine lv_iload_n X.x X.b d_law_237 rfl (lv_at hl 0 rfl) ?_
  refine lv_iconst (v := nI 1) X.x X.b d_law_238 (by decide) ?_
  refine lv_iadd X.x X.b d_law_239 ?_
  rw [nI_add]
  refine va_sld X.x X.b hX hbl hbA hW.2.2 (q_in (show i + 1 < L by omega) (by omega)) d_law_240 ?_
  rw [nI_clamp (by omega)]
  refine lv_aload_n X.x X.b d_law_241 rfl (lv_at hl 1 rfl) ?_
  refine lv_iload_n X.x X.b d_law_242 rfl (lv_at hl 0 rfl) ?_
  refine lv_iconst (v := nI 2) X.x X.b d_law_243 (by decide) ?_
  refine lv_iadd X.x X.b d_law_244 ?_
  rw [nI_add]
  refine va_sld X.x X.b hX hbl hbA hW.2.2 (q_in (show i + 2 < L by omega) (by omega)) d_law_245 ?_
  rw [nI_clamp (by omega)]
  refine lv_aload_n X.x X.b d_law_246 rfl (lv_at hl 1 rfl) ?_
  refine lv_iload_n X.x X.b d_law_247 rfl (lv_at hl 0 rfl) ?_
  refine lv_iconst (v := nI 3) X.x X.b d_law_248 (by decide) ?_
  refine lv_iadd X.x X.b d_law_249 ?_
  rw [nI_add]
  refine va_sld X.x X.b hX hbl hbA hW.2.2 (q_in (show i + 3 < L by omega) (by omega)) d_law_250 ?_
  rw [nI_clamp (by omega)]
  refine q_cvip X c2 hW (q_recv X hW ds_R rfl) ok_R_turn mw_750 ⟨by show d2 + 1 ≤ 13; omega, by show 8 + (4 + 11) + 39 * d2 ≤ 512; omega⟩ (As := [.int (xs (i + 1)), .int (xs (i + 2)), .int (xs (i + 3))]) rfl rfl (Nat.le_of_ble_eq_true rfl) (lv := [(3, .int (nI i)), (0, .ref b), (1, .ref (eA E 0)), (2, .ref (eA E 70))]) hl ⟨Nat.le_of_ble_eq_true rfl, Nat.le_of_ble_eq_true rfl⟩ d_law_251 (fun H locs v hv hW => ?_)
  refine lv_icmp_eq (tgt := 1513) X.x X.b d_law_254 (by decide) (fun _ => kk v H locs (h4 v hv) hW) (fun z => absurd rfl z)
set_option maxHeartbeats 1000000 in
theorem law_listed {p : Program} {l : Launch} {e : Env} {s : State} {m : MethodId} {below : List Frame} {meth : Method} {c : Code} {H : Heap} {locs : List Loc} {Q : State → Prop} {ls : Array Slot} {E : QE} {S : QM} {J : QM → Prop} {rt : Option FieldType} {b L i : Nat} {xs : Nat → Int32} (X : qX E p s m #[.ref b] meth c code 4 rt "CarelessMistLaw") (hX : va_X b L xs s s.heap) (hbl : b < s.heap.size) (hbA : ¬ qAA E s.heap.size b) (hi : i + 6 ≤ L) (hL : L ≤ 3072) (h : qH_listed E l J) (hJ : J S) (hW : qWH E S s H locs) (hl : lv_has ls 4 [(3, .int (nI i)), (0, .ref b), (1, .ref (eA E 0)), (2, .ref (eA E 70))])
    (kk : ∀ (S : QM) (H : Heap) (locs : List Loc), J S → qWH E S s H locs → W p l e room_1 s m #[.ref b] below meth c H locs 82 1814 Q (F0 m 1513 ls [])) : W p l e room_1 s m #[.ref b] below meth c H locs 82 1814 Q (F0 m 259 ls []) := by
  obtain ⟨d1, d2, r, P, h1, h2, c1, h3⟩ := h S hJ (xs (i + 1))
  refine lv_aload_n X.x X.b d_law_259 rfl (lv_at hl 2 rfl) ?_
  refine lv_aload_n X.x X.b d_law_260 rfl (lv_at hl 1 rfl) ?_
  refine lv_iload_n X.x X.b d_law_261 rfl (lv_at hl 0 rfl) ?_
  refine lv_iconst (v := nI 1) X.x X.b d_law_262 (by decide) ?_
  refine lv_iadd X.x X.b d_law_263 ?_
  rw [nI_add]
  refine va_sld X.x X.b hX hbl hbA hW.2.2 (q_in (show i + 1 < L by omega) (by omega)) d_law_264 ?_
  rw [nI_clamp (by omega)]
  refine q_cvip X c1 hW (q_recv X hW ds_X rfl) ok_X_listed mw_217 ⟨by show d1 + 1 ≤ 13; omega, by show 8 + (2 + 11) + 39 * d1 ≤ 512; omega⟩ (As := [.int (xs (i + 1))]) rfl rfl (Nat.le_of_ble_eq_true rfl) (lv := [(3, .int (nI i)), (0, .ref b), (1, .ref (eA E 0)), (2, .ref (eA E 70))]) hl ⟨Nat.le_of_ble_eq_true rfl, Nat.le_of_ble_eq_true rfl⟩ d_law_265 (fun H locs u hu hW => ?_)
  obtain ⟨P', c2, h4⟩ := h3 u hu
  refine lv_aload_n X.x X.b d_law_268 rfl (lv_at hl 3 rfl) ?_
  refine lv_aload_n X.x X.b d_law_269 rfl (lv_at hl 1 rfl) ?_
  refine lv_iload_n X.x X.b d_law_270 rfl (lv_at hl 0 rfl) ?_
  refine lv_iconst (v := nI 1) X.x X.b d_law_271 (by decide) ?_
  refine lv_iadd X.x X.b d_law_272 ?_
  rw [nI_add]
  refine va_sld X.x X.b hX hbl hbA hW.2.2 (q_in (show i + 1 < L by omega) (by omega)) d_law_273 ?_
  rw [nI_clamp (by omega)]
  refine q_cvip X c2 hW (q_recv X hW ds_R rfl) ok_R_listed mw_772 ⟨by show d2 + 1 ≤ 13; omega, by show 8 + (2 + 11) + 39 * d2 ≤ 512; omega⟩ (As := [.int (xs (i + 1))]) rfl rfl (Nat.le_of_ble_eq_true rfl) (lv := [(3, .int (nI i)), (0, .ref b), (1, .ref (eA E 0)), (2, .ref (eA E 70))]) hl ⟨Nat.le_of_ble_eq_true rfl, Nat.le_of_ble_eq_true rfl⟩ d_law_274 (fun H locs v hv hW => ?_)
  refine lv_icmp_eq (tgt := 1513) X.x X.b d_law_277 (by decide) (fun _ => kk v H locs (h4 v hv) hW) (fun z => absurd rfl z)
set_option maxHeartbeats 1000000 in
theorem law_thing {p : Program} {l : Launch} {e : Env} {s : State} {m : MethodId} {below : List Frame} {meth : Method} {c : Code} {H : Heap} {locs : List Loc} {Q : State → Prop} {ls : Array Slot} {E : QE} {S : QM} {J : QM → Prop} {rt : Option FieldType} {b L i : Nat} {xs : Nat → Int32} (X : qX E p s m #[.ref b] meth c code 4 rt "CarelessMistLaw") (hX : va_X b L xs s s.heap) (hbl : b < s.heap.size) (hbA : ¬ qAA E s.heap.size b) (hi : i + 6 ≤ L) (hL : L ≤ 3072) (h : qH_thing E l J) (hJ : J S) (hW : qWH E S s H locs) (hl : lv_has ls 4 [(3, .int (nI i)), (0, .ref b), (1, .ref (eA E 0)), (2, .ref (eA E 70))])
    (kk : ∀ (S : QM) (H : Heap) (locs : List Loc), J S → qWH E S s H locs → W p l e room_1 s m #[.ref b] below meth c H locs 82 1814 Q (F0 m 1513 ls [])) : W p l e room_1 s m #[.ref b] below meth c H locs 82 1814 Q (F0 m 282 ls []) := by
  obtain ⟨d1, d2, r, P, h1, h2, c1, h3⟩ := h S hJ (xs (i + 1)) (xs (i + 2))
  refine lv_aload_n X.x X.b d_law_282 rfl (lv_at hl 2 rfl) ?_
  refine lv_aload_n X.x X.b d_law_283 rfl (lv_at hl 1 rfl) ?_
  refine lv_iload_n X.x X.b d_law_284 rfl (lv_at hl 0 rfl) ?_
  refine lv_iconst (v := nI 1) X.x X.b d_law_285 (by decide) ?_
  refine lv_iadd X.x X.b d_law_286 ?_
  rw [nI_add]
  refine va_sld X.x X.b hX hbl hbA hW.2.2 (q_in (show i + 1 < L by omega) (by omega)) d_law_287 ?_
  rw [nI_clamp (by omega)]
  refine lv_aload_n X.x X.b d_law_288 rfl (lv_at hl 1 rfl) ?_
  refine lv_iload_n X.x X.b d_law_289 rfl (lv_at hl 0 rfl) ?_
  refine lv_iconst (v := nI 2) X.x X.b d_law_290 (by decide) ?_
  refine lv_iadd X.x X.b d_law_291 ?_
  rw [nI_add]
  refine va_sld X.x X.b hX hbl hbA hW.2.2 (q_in (show i + 2 < L by omega) (by omega)) d_law_292 ?_
  rw [nI_clamp (by omega)]
  refine q_cvip X c1 hW (q_recv X hW ds_X rfl) ok_X_thing mw_221 ⟨by show d1 + 1 ≤ 13; omega, by show 8 + (3 + 11) + 39 * d1 ≤ 512; omega⟩ (As := [.int (xs (i + 1)), .int (xs (i + 2))]) rfl rfl (Nat.le_of_ble_eq_true rfl) (lv := [(3, .int (nI i)), (0, .ref b), (1, .ref (eA E 0)), (2, .ref (eA E 70))]) hl ⟨Nat.le_of_ble_eq_true rfl, Nat.le_of_ble_eq_true rfl⟩ d_law_293 (fun H locs u hu hW => ?_)
  obtain ⟨P', c2, h4⟩ := h3 u hu
  refine lv_aload_n X.x X.b d_law_296 rfl (lv_at hl 3 rfl) ?_
  refine lv_aload_n X.x X.b d_law_297 rfl (lv_at hl 1 rfl) ?_
  refine lv_iload_n X.x X.b d_law_298 rfl (lv_at hl 0 rfl) ?_
  refine lv_iconst (v := nI 1) X.x X.b d_law_299 (by decide) ?_
  refine lv_iadd X.x X.b d_law_300 ?_
  rw [nI_add]
  refine va_sld X.x X.b hX hbl hbA hW.2.2 (q_in (show i + 1 < L by omega) (by omega)) d_law_301 ?_
  rw [nI_clamp (by omega)]
  refine lv_aload_n X.x X.b d_law_302 rfl (lv_at hl 1 rfl) ?_
  refine lv_iload_n X.x X.b d_law_303 rfl (lv_at hl 0 rfl) ?_
  refine lv_iconst (v := nI 2) X.x X.b d_law_304 (by decide) ?_
  refine lv_iadd X.x X.b d_law_305 ?_
  rw [nI_add]
  refine va_sld X.x X.b hX hbl hbA hW.2.2 (q_in (show i + 2 < L by omega) (by omega)) d_law_306 ?_
  rw [nI_clamp (by omega)]
  refine q_cvip X c2 hW (q_recv X hW ds_R rfl) ok_R_thing mw_776 ⟨by show d2 + 1 ≤ 13; omega, by show 8 + (3 + 11) + 39 * d2 ≤ 512; omega⟩ (As := [.int (xs (i + 1)), .int (xs (i + 2))]) rfl rfl (Nat.le_of_ble_eq_true rfl) (lv := [(3, .int (nI i)), (0, .ref b), (1, .ref (eA E 0)), (2, .ref (eA E 70))]) hl ⟨Nat.le_of_ble_eq_true rfl, Nat.le_of_ble_eq_true rfl⟩ d_law_307 (fun H locs v hv hW => ?_)
  refine lv_icmp_eq (tgt := 1513) X.x X.b d_law_310 (by decide) (fun _ => kk v H locs (h4 v hv) hW) (fun z => absurd rfl z)
set_option maxHeartbeats 1000000 in
theorem law_walker {p : Program} {l : Launch} {e : Env} {s : State} {m : MethodId} {below : List Frame} {meth : Method} {c : Code} {H : Heap} {locs : List Loc} {Q : State → Prop} {ls : Array Slot} {E : QE} {S : QM} {J : QM → Prop} {rt : Option FieldType} {b L i : Nat} {xs : Nat → Int32} (X : qX E p s m #[.ref b] meth c code 4 rt "CarelessMistLaw") (hX : va_X b L xs s s.heap) (hbl : b < s.heap.size) (hbA : ¬ qAA E s.heap.size b) (hi : i + 6 ≤ L) (hL : L ≤ 3072) (h : qH_walker E l J) (hJ : J S) (hW : qWH E S s H locs) (hl : lv_has ls 4 [(3, .int (nI i)), (0, .ref b), (1, .ref (eA E 0)), (2, .ref (eA E 70))])
    (kk : ∀ (S : QM) (H : Heap) (locs : List Loc), J S → qWH E S s H locs → W p l e room_1 s m #[.ref b] below meth c H locs 82 1814 Q (F0 m 1513 ls [])) : W p l e room_1 s m #[.ref b] below meth c H locs 82 1814 Q (F0 m 315 ls []) := by
  obtain ⟨d1, d2, r, P, h1, h2, c1, h3⟩ := h S hJ (xs (i + 1)) (xs (i + 2))
  refine lv_aload_n X.x X.b d_law_315 rfl (lv_at hl 2 rfl) ?_
  refine lv_aload_n X.x X.b d_law_316 rfl (lv_at hl 1 rfl) ?_
  refine lv_iload_n X.x X.b d_law_317 rfl (lv_at hl 0 rfl) ?_
  refine lv_iconst (v := nI 1) X.x X.b d_law_318 (by decide) ?_
  refine lv_iadd X.x X.b d_law_319 ?_
  rw [nI_add]
  refine va_sld X.x X.b hX hbl hbA hW.2.2 (q_in (show i + 1 < L by omega) (by omega)) d_law_320 ?_
  rw [nI_clamp (by omega)]
  refine lv_aload_n X.x X.b d_law_321 rfl (lv_at hl 1 rfl) ?_
  refine lv_iload_n X.x X.b d_law_322 rfl (lv_at hl 0 rfl) ?_
  refine lv_iconst (v := nI 2) X.x X.b d_law_323 (by decide) ?_
  refine lv_iadd X.x X.b d_law_324 ?_
  rw [nI_add]
  refine va_sld X.x X.b hX hbl hbA hW.2.2 (q_in (show i + 2 < L by omega) (by omega)) d_law_325 ?_
  rw [nI_clamp (by omega)]
  refine q_cvip X c1 hW (q_recv X hW ds_X rfl) ok_X_walker mw_232 ⟨by show d1 + 1 ≤ 13; omega, by show 8 + (3 + 11) + 39 * d1 ≤ 512; omega⟩ (As := [.int (xs (i + 1)), .int (xs (i + 2))]) rfl rfl (Nat.le_of_ble_eq_true rfl) (lv := [(3, .int (nI i)), (0, .ref b), (1, .ref (eA E 0)), (2, .ref (eA E 70))]) hl ⟨Nat.le_of_ble_eq_true rfl, Nat.le_of_ble_eq_true rfl⟩ d_law_326 (fun H locs u hu hW => ?_)
  obtain ⟨P', c2, h4⟩ := h3 u hu
  refine lv_aload_n X.x X.b d_law_329 rfl (lv_at hl 3 rfl) ?_
  refine lv_aload_n X.x X.b d_law_330 rfl (lv_at hl 1 rfl) ?_
  refine lv_iload_n X.x X.b d_law_331 rfl (lv_at hl 0 rfl) ?_
  refine lv_iconst (v := nI 1) X.x X.b d_law_332 (by decide) ?_
  refine lv_iadd X.x X.b d_law_333 ?_
  rw [nI_add]
  refine va_sld X.x X.b hX hbl hbA hW.2.2 (q_in (show i + 1 < L by omega) (by omega)) d_law_334 ?_
  rw [nI_clamp (by omega)]
  refine lv_aload_n X.x X.b d_law_335 rfl (lv_at hl 1 rfl) ?_
  refine lv_iload_n X.x X.b d_law_336 rfl (lv_at hl 0 rfl) ?_
  refine lv_iconst (v := nI 2) X.x X.b d_law_337 (by decide) ?_
  refine lv_iadd X.x X.b d_law_338 ?_
  rw [nI_add]
  refine va_sld X.x X.b hX hbl hbA hW.2.2 (q_in (show i + 2 < L by omega) (by omega)) d_law_339 ?_
  rw [nI_clamp (by omega)]
  refine q_cvip X c2 hW (q_recv X hW ds_R rfl) ok_R_walker mw_794 ⟨by show d2 + 1 ≤ 13; omega, by show 8 + (3 + 11) + 39 * d2 ≤ 512; omega⟩ (As := [.int (xs (i + 1)), .int (xs (i + 2))]) rfl rfl (Nat.le_of_ble_eq_true rfl) (lv := [(3, .int (nI i)), (0, .ref b), (1, .ref (eA E 0)), (2, .ref (eA E 70))]) hl ⟨Nat.le_of_ble_eq_true rfl, Nat.le_of_ble_eq_true rfl⟩ d_law_340 (fun H locs v hv hW => ?_)
  refine lv_icmp_eq (tgt := 1513) X.x X.b d_law_343 (by decide) (fun _ => kk v H locs (h4 v hv) hW) (fun z => absurd rfl z)
set_option maxHeartbeats 1000000 in
theorem law_of {p : Program} {l : Launch} {e : Env} {s : State} {m : MethodId} {below : List Frame} {meth : Method} {c : Code} {H : Heap} {locs : List Loc} {Q : State → Prop} {ls : Array Slot} {E : QE} {S : QM} {J : QM → Prop} {rt : Option FieldType} {b L i : Nat} {xs : Nat → Int32} (X : qX E p s m #[.ref b] meth c code 4 rt "CarelessMistLaw") (hX : va_X b L xs s s.heap) (hbl : b < s.heap.size) (hbA : ¬ qAA E s.heap.size b) (hi : i + 6 ≤ L) (hL : L ≤ 3072) (h : qH_of E l J) (hJ : J S) (hW : qWH E S s H locs) (hl : lv_has ls 4 [(3, .int (nI i)), (0, .ref b), (1, .ref (eA E 0)), (2, .ref (eA E 70))])
    (kk : ∀ (S : QM) (H : Heap) (locs : List Loc), J S → qWH E S s H locs → W p l e room_1 s m #[.ref b] below meth c H locs 82 1814 Q (F0 m 1513 ls [])) : W p l e room_1 s m #[.ref b] below meth c H locs 82 1814 Q (F0 m 348 ls []) := by
  obtain ⟨d1, d2, r, P, h1, h2, c1, h3⟩ := h S hJ (xs (i + 1)) (xs (i + 2))
  refine lv_aload_n X.x X.b d_law_348 rfl (lv_at hl 2 rfl) ?_
  refine lv_aload_n X.x X.b d_law_349 rfl (lv_at hl 1 rfl) ?_
  refine lv_iload_n X.x X.b d_law_350 rfl (lv_at hl 0 rfl) ?_
  refine lv_iconst (v := nI 1) X.x X.b d_law_351 (by decide) ?_
  refine lv_iadd X.x X.b d_law_352 ?_
  rw [nI_add]
  refine va_sld X.x X.b hX hbl hbA hW.2.2 (q_in (show i + 1 < L by omega) (by omega)) d_law_353 ?_
  rw [nI_clamp (by omega)]
  refine lv_aload_n X.x X.b d_law_354 rfl (lv_at hl 1 rfl) ?_
  refine lv_iload_n X.x X.b d_law_355 rfl (lv_at hl 0 rfl) ?_
  refine lv_iconst (v := nI 2) X.x X.b d_law_356 (by decide) ?_
  refine lv_iadd X.x X.b d_law_357 ?_
  rw [nI_add]
  refine va_sld X.x X.b hX hbl hbA hW.2.2 (q_in (show i + 2 < L by omega) (by omega)) d_law_358 ?_
  rw [nI_clamp (by omega)]
  refine q_cvip X c1 hW (q_recv X hW ds_X rfl) ok_X_of mw_240 ⟨by show d1 + 1 ≤ 13; omega, by show 8 + (4 + 11) + 39 * d1 ≤ 512; omega⟩ (As := [.int (xs (i + 1)), .int (xs (i + 2))]) rfl rfl (Nat.le_of_ble_eq_true rfl) (lv := [(3, .int (nI i)), (0, .ref b), (1, .ref (eA E 0)), (2, .ref (eA E 70))]) hl ⟨Nat.le_of_ble_eq_true rfl, Nat.le_of_ble_eq_true rfl⟩ d_law_359 (fun H locs u hu hW => ?_)
  obtain ⟨P', c2, h4⟩ := h3 u hu
  refine lv_aload_n X.x X.b d_law_362 rfl (lv_at hl 3 rfl) ?_
  refine lv_aload_n X.x X.b d_law_363 rfl (lv_at hl 1 rfl) ?_
  refine lv_iload_n X.x X.b d_law_364 rfl (lv_at hl 0 rfl) ?_
  refine lv_iconst (v := nI 1) X.x X.b d_law_365 (by decide) ?_
  refine lv_iadd X.x X.b d_law_366 ?_
  rw [nI_add]
  refine va_sld X.x X.b hX hbl hbA hW.2.2 (q_in (show i + 1 < L by omega) (by omega)) d_law_367 ?_
  rw [nI_clamp (by omega)]
  refine lv_aload_n X.x X.b d_law_368 rfl (lv_at hl 1 rfl) ?_
  refine lv_iload_n X.x X.b d_law_369 rfl (lv_at hl 0 rfl) ?_
  refine lv_iconst (v := nI 2) X.x X.b d_law_370 (by decide) ?_
  refine lv_iadd X.x X.b d_law_371 ?_
  rw [nI_add]
  refine va_sld X.x X.b hX hbl hbA hW.2.2 (q_in (show i + 2 < L by omega) (by omega)) d_law_372 ?_
  rw [nI_clamp (by omega)]
  refine q_cvip X c2 hW (q_recv X hW ds_R rfl) ok_R_of mw_805 ⟨by show d2 + 1 ≤ 13; omega, by show 8 + (3 + 11) + 39 * d2 ≤ 512; omega⟩ (As := [.int (xs (i + 1)), .int (xs (i + 2))]) rfl rfl (Nat.le_of_ble_eq_true rfl) (lv := [(3, .int (nI i)), (0, .ref b), (1, .ref (eA E 0)), (2, .ref (eA E 70))]) hl ⟨Nat.le_of_ble_eq_true rfl, Nat.le_of_ble_eq_true rfl⟩ d_law_373 (fun H locs v hv hW => ?_)
  refine lv_icmp_eq (tgt := 1513) X.x X.b d_law_376 (by decide) (fun _ => kk v H locs (h4 v hv) hW) (fun z => absurd rfl z)
set_option maxHeartbeats 1000000 in
theorem law_change {p : Program} {l : Launch} {e : Env} {s : State} {m : MethodId} {below : List Frame} {meth : Method} {c : Code} {H : Heap} {locs : List Loc} {Q : State → Prop} {ls : Array Slot} {E : QE} {S : QM} {J : QM → Prop} {rt : Option FieldType} {b L i : Nat} {xs : Nat → Int32} (X : qX E p s m #[.ref b] meth c code 4 rt "CarelessMistLaw") (hX : va_X b L xs s s.heap) (hbl : b < s.heap.size) (hbA : ¬ qAA E s.heap.size b) (hi : i + 6 ≤ L) (hL : L ≤ 3072) (h : qH_change E l J) (hJ : J S) (hW : qWH E S s H locs) (hl : lv_has ls 4 [(3, .int (nI i)), (0, .ref b), (1, .ref (eA E 0)), (2, .ref (eA E 70))])
    (kk : ∀ (S : QM) (H : Heap) (locs : List Loc), J S → qWH E S s H locs → W p l e room_1 s m #[.ref b] below meth c H locs 82 1814 Q (F0 m 1513 ls [])) : W p l e room_1 s m #[.ref b] below meth c H locs 82 1814 Q (F0 m 381 ls []) := by
  obtain ⟨d1, d2, r, P, h1, h2, c1, h3⟩ := h S hJ (xs (i + 1)) (xs (i + 2)) (xs (i + 3))
  refine lv_aload_n X.x X.b d_law_381 rfl (lv_at hl 2 rfl) ?_
  refine lv_aload_n X.x X.b d_law_382 rfl (lv_at hl 1 rfl) ?_
  refine lv_iload_n X.x X.b d_law_383 rfl (lv_at hl 0 rfl) ?_
  refine lv_iconst (v := nI 1) X.x X.b d_law_384 (by decide) ?_
  refine lv_iadd X.x X.b d_law_385 ?_
  rw [nI_add]
  refine va_sld X.x X.b hX hbl hbA hW.2.2 (q_in (show i + 1 < L by omega) (by omega)) d_law_386 ?_
  rw [nI_clamp (by omega)]
  refine lv_aload_n X.x X.b d_law_387 rfl (lv_at hl 1 rfl) ?_
  refine lv_iload_n X.x X.b d_law_388 rfl (lv_at hl 0 rfl) ?_
  refine lv_iconst (v := nI 2) X.x X.b d_law_389 (by decide) ?_
  refine lv_iadd X.x X.b d_law_390 ?_
  rw [nI_add]
  refine va_sld X.x X.b hX hbl hbA hW.2.2 (q_in (show i + 2 < L by omega) (by omega)) d_law_391 ?_
  rw [nI_clamp (by omega)]
  refine lv_aload_n X.x X.b d_law_392 rfl (lv_at hl 1 rfl) ?_
  refine lv_iload_n X.x X.b d_law_393 rfl (lv_at hl 0 rfl) ?_
  refine lv_iconst (v := nI 3) X.x X.b d_law_394 (by decide) ?_
  refine lv_iadd X.x X.b d_law_395 ?_
  rw [nI_add]
  refine va_sld X.x X.b hX hbl hbA hW.2.2 (q_in (show i + 3 < L by omega) (by omega)) d_law_396 ?_
  rw [nI_clamp (by omega)]
  refine q_cvip X c1 hW (q_recv X hW ds_X rfl) ok_X_change mw_257 ⟨by show d1 + 1 ≤ 13; omega, by show 8 + (5 + 11) + 39 * d1 ≤ 512; omega⟩ (As := [.int (xs (i + 1)), .int (xs (i + 2)), .int (xs (i + 3))]) rfl rfl (Nat.le_of_ble_eq_true rfl) (lv := [(3, .int (nI i)), (0, .ref b), (1, .ref (eA E 0)), (2, .ref (eA E 70))]) hl ⟨Nat.le_of_ble_eq_true rfl, Nat.le_of_ble_eq_true rfl⟩ d_law_397 (fun H locs u hu hW => ?_)
  obtain ⟨P', c2, h4⟩ := h3 u hu
  refine lv_aload_n X.x X.b d_law_400 rfl (lv_at hl 3 rfl) ?_
  refine lv_aload_n X.x X.b d_law_401 rfl (lv_at hl 1 rfl) ?_
  refine lv_iload_n X.x X.b d_law_402 rfl (lv_at hl 0 rfl) ?_
  refine lv_iconst (v := nI 1) X.x X.b d_law_403 (by decide) ?_
  refine lv_iadd X.x X.b d_law_404 ?_
  rw [nI_add]
  refine va_sld X.x X.b hX hbl hbA hW.2.2 (q_in (show i + 1 < L by omega) (by omega)) d_law_405 ?_
  rw [nI_clamp (by omega)]
  refine lv_aload_n X.x X.b d_law_406 rfl (lv_at hl 1 rfl) ?_
  refine lv_iload_n X.x X.b d_law_407 rfl (lv_at hl 0 rfl) ?_
  refine lv_iconst (v := nI 2) X.x X.b d_law_408 (by decide) ?_
  refine lv_iadd X.x X.b d_law_409 ?_
  rw [nI_add]
  refine va_sld X.x X.b hX hbl hbA hW.2.2 (q_in (show i + 2 < L by omega) (by omega)) d_law_410 ?_
  rw [nI_clamp (by omega)]
  refine lv_aload_n X.x X.b d_law_411 rfl (lv_at hl 1 rfl) ?_
  refine lv_iload_n X.x X.b d_law_412 rfl (lv_at hl 0 rfl) ?_
  refine lv_iconst (v := nI 3) X.x X.b d_law_413 (by decide) ?_
  refine lv_iadd X.x X.b d_law_414 ?_
  rw [nI_add]
  refine va_sld X.x X.b hX hbl hbA hW.2.2 (q_in (show i + 3 < L by omega) (by omega)) d_law_415 ?_
  rw [nI_clamp (by omega)]
  refine q_cvip X c2 hW (q_recv X hW ds_R rfl) ok_R_change mw_833 ⟨by show d2 + 1 ≤ 13; omega, by show 8 + (5 + 11) + 39 * d2 ≤ 512; omega⟩ (As := [.int (xs (i + 1)), .int (xs (i + 2)), .int (xs (i + 3))]) rfl rfl (Nat.le_of_ble_eq_true rfl) (lv := [(3, .int (nI i)), (0, .ref b), (1, .ref (eA E 0)), (2, .ref (eA E 70))]) hl ⟨Nat.le_of_ble_eq_true rfl, Nat.le_of_ble_eq_true rfl⟩ d_law_416 (fun H locs v hv hW => ?_)
  refine lv_icmp_eq (tgt := 1513) X.x X.b d_law_419 (by decide) (fun _ => kk v H locs (h4 v hv) hW) (fun z => absurd rfl z)
set_option maxHeartbeats 1000000 in
theorem law_ofWalker {p : Program} {l : Launch} {e : Env} {s : State} {m : MethodId} {below : List Frame} {meth : Method} {c : Code} {H : Heap} {locs : List Loc} {Q : State → Prop} {ls : Array Slot} {E : QE} {S : QM} {J : QM → Prop} {rt : Option FieldType} {b L i : Nat} {xs : Nat → Int32} (X : qX E p s m #[.ref b] meth c code 4 rt "CarelessMistLaw") (hX : va_X b L xs s s.heap) (hbl : b < s.heap.size) (hbA : ¬ qAA E s.heap.size b) (hi : i + 6 ≤ L) (hL : L ≤ 3072) (h : qH_ofWalker E l J) (hJ : J S) (hW : qWH E S s H locs) (hl : lv_has ls 4 [(3, .int (nI i)), (0, .ref b), (1, .ref (eA E 0)), (2, .ref (eA E 70))])
    (kk : ∀ (S : QM) (H : Heap) (locs : List Loc), J S → qWH E S s H locs → W p l e room_1 s m #[.ref b] below meth c H locs 82 1814 Q (F0 m 1513 ls [])) : W p l e room_1 s m #[.ref b] below meth c H locs 82 1814 Q (F0 m 424 ls []) := by
  obtain ⟨d1, d2, r, P, h1, h2, c1, h3⟩ := h S hJ (xs (i + 1)) (xs (i + 2))
  refine lv_aload_n X.x X.b d_law_424 rfl (lv_at hl 2 rfl) ?_
  refine lv_aload_n X.x X.b d_law_425 rfl (lv_at hl 1 rfl) ?_
  refine lv_iload_n X.x X.b d_law_426 rfl (lv_at hl 0 rfl) ?_
  refine lv_iconst (v := nI 1) X.x X.b d_law_427 (by decide) ?_
  refine lv_iadd X.x X.b d_law_428 ?_
  rw [nI_add]
  refine va_sld X.x X.b hX hbl hbA hW.2.2 (q_in (show i + 1 < L by omega) (by omega)) d_law_429 ?_
  rw [nI_clamp (by omega)]
  refine lv_aload_n X.x X.b d_law_430 rfl (lv_at hl 1 rfl) ?_
  refine lv_iload_n X.x X.b d_law_431 rfl (lv_at hl 0 rfl) ?_
  refine lv_iconst (v := nI 2) X.x X.b d_law_432 (by decide) ?_
  refine lv_iadd X.x X.b d_law_433 ?_
  rw [nI_add]
  refine va_sld X.x X.b hX hbl hbA hW.2.2 (q_in (show i + 2 < L by omega) (by omega)) d_law_434 ?_
  rw [nI_clamp (by omega)]
  refine q_cvip X c1 hW (q_recv X hW ds_X rfl) ok_X_ofWalker mw_261 ⟨by show d1 + 1 ≤ 13; omega, by show 8 + (3 + 11) + 39 * d1 ≤ 512; omega⟩ (As := [.int (xs (i + 1)), .int (xs (i + 2))]) rfl rfl (Nat.le_of_ble_eq_true rfl) (lv := [(3, .int (nI i)), (0, .ref b), (1, .ref (eA E 0)), (2, .ref (eA E 70))]) hl ⟨Nat.le_of_ble_eq_true rfl, Nat.le_of_ble_eq_true rfl⟩ d_law_435 (fun H locs u hu hW => ?_)
  obtain ⟨P', c2, h4⟩ := h3 u hu
  refine lv_aload_n X.x X.b d_law_438 rfl (lv_at hl 3 rfl) ?_
  refine lv_aload_n X.x X.b d_law_439 rfl (lv_at hl 1 rfl) ?_
  refine lv_iload_n X.x X.b d_law_440 rfl (lv_at hl 0 rfl) ?_
  refine lv_iconst (v := nI 1) X.x X.b d_law_441 (by decide) ?_
  refine lv_iadd X.x X.b d_law_442 ?_
  rw [nI_add]
  refine va_sld X.x X.b hX hbl hbA hW.2.2 (q_in (show i + 1 < L by omega) (by omega)) d_law_443 ?_
  rw [nI_clamp (by omega)]
  refine lv_aload_n X.x X.b d_law_444 rfl (lv_at hl 1 rfl) ?_
  refine lv_iload_n X.x X.b d_law_445 rfl (lv_at hl 0 rfl) ?_
  refine lv_iconst (v := nI 2) X.x X.b d_law_446 (by decide) ?_
  refine lv_iadd X.x X.b d_law_447 ?_
  rw [nI_add]
  refine va_sld X.x X.b hX hbl hbA hW.2.2 (q_in (show i + 2 < L by omega) (by omega)) d_law_448 ?_
  rw [nI_clamp (by omega)]
  refine q_cvip X c2 hW (q_recv X hW ds_R rfl) ok_R_ofWalker mw_837 ⟨by show d2 + 1 ≤ 13; omega, by show 8 + (3 + 11) + 39 * d2 ≤ 512; omega⟩ (As := [.int (xs (i + 1)), .int (xs (i + 2))]) rfl rfl (Nat.le_of_ble_eq_true rfl) (lv := [(3, .int (nI i)), (0, .ref b), (1, .ref (eA E 0)), (2, .ref (eA E 70))]) hl ⟨Nat.le_of_ble_eq_true rfl, Nat.le_of_ble_eq_true rfl⟩ d_law_449 (fun H locs v hv hW => ?_)
  refine lv_icmp_eq (tgt := 1513) X.x X.b d_law_452 (by decide) (fun _ => kk v H locs (h4 v hv) hW) (fun z => absurd rfl z)
set_option maxHeartbeats 1000000 in
theorem law_lead {p : Program} {l : Launch} {e : Env} {s : State} {m : MethodId} {below : List Frame} {meth : Method} {c : Code} {H : Heap} {locs : List Loc} {Q : State → Prop} {ls : Array Slot} {E : QE} {S : QM} {J : QM → Prop} {rt : Option FieldType} {b L i : Nat} {xs : Nat → Int32} (X : qX E p s m #[.ref b] meth c code 4 rt "CarelessMistLaw") (hX : va_X b L xs s s.heap) (hbl : b < s.heap.size) (hbA : ¬ qAA E s.heap.size b) (hi : i + 6 ≤ L) (hL : L ≤ 3072) (h : qH_lead E l J) (hJ : J S) (hW : qWH E S s H locs) (hl : lv_has ls 4 [(3, .int (nI i)), (0, .ref b), (1, .ref (eA E 0)), (2, .ref (eA E 70))])
    (kk : ∀ (S : QM) (H : Heap) (locs : List Loc), J S → qWH E S s H locs → W p l e room_1 s m #[.ref b] below meth c H locs 82 1814 Q (F0 m 1513 ls [])) : W p l e room_1 s m #[.ref b] below meth c H locs 82 1814 Q (F0 m 457 ls []) := by
  obtain ⟨d1, d2, r, P, h1, h2, c1, h3⟩ := h S hJ (xs (i + 1)) (xs (i + 2)) (xs (i + 3))
  refine lv_aload_n X.x X.b d_law_457 rfl (lv_at hl 2 rfl) ?_
  refine lv_aload_n X.x X.b d_law_458 rfl (lv_at hl 1 rfl) ?_
  refine lv_iload_n X.x X.b d_law_459 rfl (lv_at hl 0 rfl) ?_
  refine lv_iconst (v := nI 1) X.x X.b d_law_460 (by decide) ?_
  refine lv_iadd X.x X.b d_law_461 ?_
  rw [nI_add]
  refine va_sld X.x X.b hX hbl hbA hW.2.2 (q_in (show i + 1 < L by omega) (by omega)) d_law_462 ?_
  rw [nI_clamp (by omega)]
  refine lv_aload_n X.x X.b d_law_463 rfl (lv_at hl 1 rfl) ?_
  refine lv_iload_n X.x X.b d_law_464 rfl (lv_at hl 0 rfl) ?_
  refine lv_iconst (v := nI 2) X.x X.b d_law_465 (by decide) ?_
  refine lv_iadd X.x X.b d_law_466 ?_
  rw [nI_add]
  refine va_sld X.x X.b hX hbl hbA hW.2.2 (q_in (show i + 2 < L by omega) (by omega)) d_law_467 ?_
  rw [nI_clamp (by omega)]
  refine lv_aload_n X.x X.b d_law_468 rfl (lv_at hl 1 rfl) ?_
  refine lv_iload_n X.x X.b d_law_469 rfl (lv_at hl 0 rfl) ?_
  refine lv_iconst (v := nI 3) X.x X.b d_law_470 (by decide) ?_
  refine lv_iadd X.x X.b d_law_471 ?_
  rw [nI_add]
  refine va_sld X.x X.b hX hbl hbA hW.2.2 (q_in (show i + 3 < L by omega) (by omega)) d_law_472 ?_
  rw [nI_clamp (by omega)]
  refine q_cvip X c1 hW (q_recv X hW ds_X rfl) ok_X_lead mw_269 ⟨by show d1 + 1 ≤ 13; omega, by show 8 + (5 + 11) + 39 * d1 ≤ 512; omega⟩ (As := [.int (xs (i + 1)), .int (xs (i + 2)), .int (xs (i + 3))]) rfl rfl (Nat.le_of_ble_eq_true rfl) (lv := [(3, .int (nI i)), (0, .ref b), (1, .ref (eA E 0)), (2, .ref (eA E 70))]) hl ⟨Nat.le_of_ble_eq_true rfl, Nat.le_of_ble_eq_true rfl⟩ d_law_473 (fun H locs u hu hW => ?_)
  obtain ⟨P', c2, h4⟩ := h3 u hu
  refine lv_aload_n X.x X.b d_law_476 rfl (lv_at hl 3 rfl) ?_
  refine lv_aload_n X.x X.b d_law_477 rfl (lv_at hl 1 rfl) ?_
  refine lv_iload_n X.x X.b d_law_478 rfl (lv_at hl 0 rfl) ?_
  refine lv_iconst (v := nI 1) X.x X.b d_law_479 (by decide) ?_
  refine lv_iadd X.x X.b d_law_480 ?_
  rw [nI_add]
  refine va_sld X.x X.b hX hbl hbA hW.2.2 (q_in (show i + 1 < L by omega) (by omega)) d_law_481 ?_
  rw [nI_clamp (by omega)]
  refine lv_aload_n X.x X.b d_law_482 rfl (lv_at hl 1 rfl) ?_
  refine lv_iload_n X.x X.b d_law_483 rfl (lv_at hl 0 rfl) ?_
  refine lv_iconst (v := nI 2) X.x X.b d_law_484 (by decide) ?_
  refine lv_iadd X.x X.b d_law_485 ?_
  rw [nI_add]
  refine va_sld X.x X.b hX hbl hbA hW.2.2 (q_in (show i + 2 < L by omega) (by omega)) d_law_486 ?_
  rw [nI_clamp (by omega)]
  refine lv_aload_n X.x X.b d_law_487 rfl (lv_at hl 1 rfl) ?_
  refine lv_iload_n X.x X.b d_law_488 rfl (lv_at hl 0 rfl) ?_
  refine lv_iconst (v := nI 3) X.x X.b d_law_489 (by decide) ?_
  refine lv_iadd X.x X.b d_law_490 ?_
  rw [nI_add]
  refine va_sld X.x X.b hX hbl hbA hW.2.2 (q_in (show i + 3 < L by omega) (by omega)) d_law_491 ?_
  rw [nI_clamp (by omega)]
  refine q_cvip X c2 hW (q_recv X hW ds_R rfl) ok_R_lead mw_849 ⟨by show d2 + 1 ≤ 13; omega, by show 8 + (4 + 11) + 39 * d2 ≤ 512; omega⟩ (As := [.int (xs (i + 1)), .int (xs (i + 2)), .int (xs (i + 3))]) rfl rfl (Nat.le_of_ble_eq_true rfl) (lv := [(3, .int (nI i)), (0, .ref b), (1, .ref (eA E 0)), (2, .ref (eA E 70))]) hl ⟨Nat.le_of_ble_eq_true rfl, Nat.le_of_ble_eq_true rfl⟩ d_law_492 (fun H locs v hv hW => ?_)
  refine lv_icmp_eq (tgt := 1513) X.x X.b d_law_495 (by decide) (fun _ => kk v H locs (h4 v hv) hW) (fun z => absurd rfl z)
set_option maxHeartbeats 1000000 in
theorem law_sees {p : Program} {l : Launch} {e : Env} {s : State} {m : MethodId} {below : List Frame} {meth : Method} {c : Code} {H : Heap} {locs : List Loc} {Q : State → Prop} {ls : Array Slot} {E : QE} {S : QM} {J : QM → Prop} {rt : Option FieldType} {b L i : Nat} {xs : Nat → Int32} (X : qX E p s m #[.ref b] meth c code 4 rt "CarelessMistLaw") (hX : va_X b L xs s s.heap) (hbl : b < s.heap.size) (hbA : ¬ qAA E s.heap.size b) (hi : i + 6 ≤ L) (hL : L ≤ 3072) (h : qH_sees E l J) (hJ : J S) (hW : qWH E S s H locs) (hl : lv_has ls 4 [(3, .int (nI i)), (0, .ref b), (1, .ref (eA E 0)), (2, .ref (eA E 70))])
    (kk : ∀ (S : QM) (H : Heap) (locs : List Loc), J S → qWH E S s H locs → W p l e room_1 s m #[.ref b] below meth c H locs 82 1814 Q (F0 m 1513 ls [])) : W p l e room_1 s m #[.ref b] below meth c H locs 82 1814 Q (F0 m 500 ls []) := by
  obtain ⟨d1, d2, r, P, h1, h2, c1, h3⟩ := h S hJ (xs (i + 1))
  refine lv_aload_n X.x X.b d_law_500 rfl (lv_at hl 2 rfl) ?_
  refine lv_aload_n X.x X.b d_law_501 rfl (lv_at hl 1 rfl) ?_
  refine lv_iload_n X.x X.b d_law_502 rfl (lv_at hl 0 rfl) ?_
  refine lv_iconst (v := nI 1) X.x X.b d_law_503 (by decide) ?_
  refine lv_iadd X.x X.b d_law_504 ?_
  rw [nI_add]
  refine va_sld X.x X.b hX hbl hbA hW.2.2 (q_in (show i + 1 < L by omega) (by omega)) d_law_505 ?_
  rw [nI_clamp (by omega)]
  refine q_cvip X c1 hW (q_recv X hW ds_X rfl) ok_X_sees mw_277 ⟨by show d1 + 1 ≤ 13; omega, by show 8 + (4 + 11) + 39 * d1 ≤ 512; omega⟩ (As := [.int (xs (i + 1))]) rfl rfl (Nat.le_of_ble_eq_true rfl) (lv := [(3, .int (nI i)), (0, .ref b), (1, .ref (eA E 0)), (2, .ref (eA E 70))]) hl ⟨Nat.le_of_ble_eq_true rfl, Nat.le_of_ble_eq_true rfl⟩ d_law_506 (fun H locs u hu hW => ?_)
  obtain ⟨P', c2, h4⟩ := h3 u hu
  refine lv_aload_n X.x X.b d_law_509 rfl (lv_at hl 3 rfl) ?_
  refine lv_aload_n X.x X.b d_law_510 rfl (lv_at hl 1 rfl) ?_
  refine lv_iload_n X.x X.b d_law_511 rfl (lv_at hl 0 rfl) ?_
  refine lv_iconst (v := nI 1) X.x X.b d_law_512 (by decide) ?_
  refine lv_iadd X.x X.b d_law_513 ?_
  rw [nI_add]
  refine va_sld X.x X.b hX hbl hbA hW.2.2 (q_in (show i + 1 < L by omega) (by omega)) d_law_514 ?_
  rw [nI_clamp (by omega)]
  refine q_cvip X c2 hW (q_recv X hW ds_R rfl) ok_R_sees mw_862 ⟨by show d2 + 1 ≤ 13; omega, by show 8 + (4 + 11) + 39 * d2 ≤ 512; omega⟩ (As := [.int (xs (i + 1))]) rfl rfl (Nat.le_of_ble_eq_true rfl) (lv := [(3, .int (nI i)), (0, .ref b), (1, .ref (eA E 0)), (2, .ref (eA E 70))]) hl ⟨Nat.le_of_ble_eq_true rfl, Nat.le_of_ble_eq_true rfl⟩ d_law_515 (fun H locs v hv hW => ?_)
  refine lv_icmp_eq (tgt := 1513) X.x X.b d_law_518 (by decide) (fun _ => kk v H locs (h4 v hv) hW) (fun z => absurd rfl z)
set_option maxHeartbeats 1000000 in
theorem law_seenBy {p : Program} {l : Launch} {e : Env} {s : State} {m : MethodId} {below : List Frame} {meth : Method} {c : Code} {H : Heap} {locs : List Loc} {Q : State → Prop} {ls : Array Slot} {E : QE} {S : QM} {J : QM → Prop} {rt : Option FieldType} {b L i : Nat} {xs : Nat → Int32} (X : qX E p s m #[.ref b] meth c code 4 rt "CarelessMistLaw") (hX : va_X b L xs s s.heap) (hbl : b < s.heap.size) (hbA : ¬ qAA E s.heap.size b) (hi : i + 6 ≤ L) (hL : L ≤ 3072) (h : qH_seenBy E l J) (hJ : J S) (hW : qWH E S s H locs) (hl : lv_has ls 4 [(3, .int (nI i)), (0, .ref b), (1, .ref (eA E 0)), (2, .ref (eA E 70))])
    (kk : ∀ (S : QM) (H : Heap) (locs : List Loc), J S → qWH E S s H locs → W p l e room_1 s m #[.ref b] below meth c H locs 82 1814 Q (F0 m 1513 ls [])) : W p l e room_1 s m #[.ref b] below meth c H locs 82 1814 Q (F0 m 523 ls []) := by
  obtain ⟨d1, d2, r, P, h1, h2, c1, h3⟩ := h S hJ (xs (i + 1))
  refine lv_aload_n X.x X.b d_law_523 rfl (lv_at hl 2 rfl) ?_
  refine lv_aload_n X.x X.b d_law_524 rfl (lv_at hl 1 rfl) ?_
  refine lv_iload_n X.x X.b d_law_525 rfl (lv_at hl 0 rfl) ?_
  refine lv_iconst (v := nI 1) X.x X.b d_law_526 (by decide) ?_
  refine lv_iadd X.x X.b d_law_527 ?_
  rw [nI_add]
  refine va_sld X.x X.b hX hbl hbA hW.2.2 (q_in (show i + 1 < L by omega) (by omega)) d_law_528 ?_
  rw [nI_clamp (by omega)]
  refine q_cvip X c1 hW (q_recv X hW ds_X rfl) ok_X_seenBy mw_290 ⟨by show d1 + 1 ≤ 13; omega, by show 8 + (2 + 11) + 39 * d1 ≤ 512; omega⟩ (As := [.int (xs (i + 1))]) rfl rfl (Nat.le_of_ble_eq_true rfl) (lv := [(3, .int (nI i)), (0, .ref b), (1, .ref (eA E 0)), (2, .ref (eA E 70))]) hl ⟨Nat.le_of_ble_eq_true rfl, Nat.le_of_ble_eq_true rfl⟩ d_law_529 (fun H locs u hu hW => ?_)
  obtain ⟨P', c2, h4⟩ := h3 u hu
  refine lv_aload_n X.x X.b d_law_532 rfl (lv_at hl 3 rfl) ?_
  refine lv_aload_n X.x X.b d_law_533 rfl (lv_at hl 1 rfl) ?_
  refine lv_iload_n X.x X.b d_law_534 rfl (lv_at hl 0 rfl) ?_
  refine lv_iconst (v := nI 1) X.x X.b d_law_535 (by decide) ?_
  refine lv_iadd X.x X.b d_law_536 ?_
  rw [nI_add]
  refine va_sld X.x X.b hX hbl hbA hW.2.2 (q_in (show i + 1 < L by omega) (by omega)) d_law_537 ?_
  rw [nI_clamp (by omega)]
  refine q_cvip X c2 hW (q_recv X hW ds_R rfl) ok_R_seenBy mw_875 ⟨by show d2 + 1 ≤ 13; omega, by show 8 + (2 + 11) + 39 * d2 ≤ 512; omega⟩ (As := [.int (xs (i + 1))]) rfl rfl (Nat.le_of_ble_eq_true rfl) (lv := [(3, .int (nI i)), (0, .ref b), (1, .ref (eA E 0)), (2, .ref (eA E 70))]) hl ⟨Nat.le_of_ble_eq_true rfl, Nat.le_of_ble_eq_true rfl⟩ d_law_538 (fun H locs v hv hW => ?_)
  refine lv_icmp_eq (tgt := 1513) X.x X.b d_law_541 (by decide) (fun _ => kk v H locs (h4 v hv) hW) (fun z => absurd rfl z)
set_option maxHeartbeats 1000000 in
theorem law_go {p : Program} {l : Launch} {e : Env} {s : State} {m : MethodId} {below : List Frame} {meth : Method} {c : Code} {H : Heap} {locs : List Loc} {Q : State → Prop} {ls : Array Slot} {E : QE} {S : QM} {J : QM → Prop} {rt : Option FieldType} {b L i : Nat} {xs : Nat → Int32} (X : qX E p s m #[.ref b] meth c code 4 rt "CarelessMistLaw") (hX : va_X b L xs s s.heap) (hbl : b < s.heap.size) (hbA : ¬ qAA E s.heap.size b) (hi : i + 6 ≤ L) (hL : L ≤ 3072) (h : qH_go E l J) (hJ : J S) (hW : qWH E S s H locs) (hl : lv_has ls 4 [(3, .int (nI i)), (0, .ref b), (1, .ref (eA E 0)), (2, .ref (eA E 70))])
    (kk : ∀ (S : QM) (H : Heap) (locs : List Loc), J S → qWH E S s H locs → W p l e room_1 s m #[.ref b] below meth c H locs 82 1814 Q (F0 m 1513 ls [])) : W p l e room_1 s m #[.ref b] below meth c H locs 82 1814 Q (F0 m 546 ls []) := by
  obtain ⟨d1, d2, r, P, h1, h2, c1, h3⟩ := h S hJ (xs (i + 1))
  refine lv_aload_n X.x X.b d_law_546 rfl (lv_at hl 2 rfl) ?_
  refine lv_aload_n X.x X.b d_law_547 rfl (lv_at hl 1 rfl) ?_
  refine lv_iload_n X.x X.b d_law_548 rfl (lv_at hl 0 rfl) ?_
  refine lv_iconst (v := nI 1) X.x X.b d_law_549 (by decide) ?_
  refine lv_iadd X.x X.b d_law_550 ?_
  rw [nI_add]
  refine va_sld X.x X.b hX hbl hbA hW.2.2 (q_in (show i + 1 < L by omega) (by omega)) d_law_551 ?_
  rw [nI_clamp (by omega)]
  refine q_cvip X c1 hW (q_recv X hW ds_X rfl) ok_X_go mw_299 ⟨by show d1 + 1 ≤ 13; omega, by show 8 + (3 + 11) + 39 * d1 ≤ 512; omega⟩ (As := [.int (xs (i + 1))]) rfl rfl (Nat.le_of_ble_eq_true rfl) (lv := [(3, .int (nI i)), (0, .ref b), (1, .ref (eA E 0)), (2, .ref (eA E 70))]) hl ⟨Nat.le_of_ble_eq_true rfl, Nat.le_of_ble_eq_true rfl⟩ d_law_552 (fun H locs u hu hW => ?_)
  obtain ⟨P', c2, h4⟩ := h3 u hu
  refine lv_aload_n X.x X.b d_law_555 rfl (lv_at hl 3 rfl) ?_
  refine lv_aload_n X.x X.b d_law_556 rfl (lv_at hl 1 rfl) ?_
  refine lv_iload_n X.x X.b d_law_557 rfl (lv_at hl 0 rfl) ?_
  refine lv_iconst (v := nI 1) X.x X.b d_law_558 (by decide) ?_
  refine lv_iadd X.x X.b d_law_559 ?_
  rw [nI_add]
  refine va_sld X.x X.b hX hbl hbA hW.2.2 (q_in (show i + 1 < L by omega) (by omega)) d_law_560 ?_
  rw [nI_clamp (by omega)]
  refine q_cvip X c2 hW (q_recv X hW ds_R rfl) ok_R_go mw_883 ⟨by show d2 + 1 ≤ 13; omega, by show 8 + (2 + 11) + 39 * d2 ≤ 512; omega⟩ (As := [.int (xs (i + 1))]) rfl rfl (Nat.le_of_ble_eq_true rfl) (lv := [(3, .int (nI i)), (0, .ref b), (1, .ref (eA E 0)), (2, .ref (eA E 70))]) hl ⟨Nat.le_of_ble_eq_true rfl, Nat.le_of_ble_eq_true rfl⟩ d_law_561 (fun H locs v hv hW => ?_)
  refine lv_icmp_eq (tgt := 1513) X.x X.b d_law_564 (by decide) (fun _ => kk v H locs (h4 v hv) hW) (fun z => absurd rfl z)
set_option maxHeartbeats 1000000 in
theorem law_now {p : Program} {l : Launch} {e : Env} {s : State} {m : MethodId} {below : List Frame} {meth : Method} {c : Code} {H : Heap} {locs : List Loc} {Q : State → Prop} {ls : Array Slot} {E : QE} {S : QM} {J : QM → Prop} {rt : Option FieldType} {b L i : Nat} {xs : Nat → Int32} (X : qX E p s m #[.ref b] meth c code 4 rt "CarelessMistLaw") (hX : va_X b L xs s s.heap) (hbl : b < s.heap.size) (hbA : ¬ qAA E s.heap.size b) (hi : i + 6 ≤ L) (hL : L ≤ 3072) (h : qH_now E l J) (hJ : J S) (hW : qWH E S s H locs) (hl : lv_has ls 4 [(3, .int (nI i)), (0, .ref b), (1, .ref (eA E 0)), (2, .ref (eA E 70))])
    (kk : ∀ (S : QM) (H : Heap) (locs : List Loc), J S → qWH E S s H locs → W p l e room_1 s m #[.ref b] below meth c H locs 82 1814 Q (F0 m 1513 ls [])) : W p l e room_1 s m #[.ref b] below meth c H locs 82 1814 Q (F0 m 569 ls []) := by
  obtain ⟨d1, d2, r, P, h1, h2, c1, h3⟩ := h S hJ (xs (i + 1))
  refine lv_aload_n X.x X.b d_law_569 rfl (lv_at hl 2 rfl) ?_
  refine lv_aload_n X.x X.b d_law_570 rfl (lv_at hl 1 rfl) ?_
  refine lv_iload_n X.x X.b d_law_571 rfl (lv_at hl 0 rfl) ?_
  refine lv_iconst (v := nI 1) X.x X.b d_law_572 (by decide) ?_
  refine lv_iadd X.x X.b d_law_573 ?_
  rw [nI_add]
  refine va_sld X.x X.b hX hbl hbA hW.2.2 (q_in (show i + 1 < L by omega) (by omega)) d_law_574 ?_
  rw [nI_clamp (by omega)]
  refine q_cvip X c1 hW (q_recv X hW ds_X rfl) ok_X_now mw_342 ⟨by show d1 + 1 ≤ 13; omega, by show 8 + (2 + 11) + 39 * d1 ≤ 512; omega⟩ (As := [.int (xs (i + 1))]) rfl rfl (Nat.le_of_ble_eq_true rfl) (lv := [(3, .int (nI i)), (0, .ref b), (1, .ref (eA E 0)), (2, .ref (eA E 70))]) hl ⟨Nat.le_of_ble_eq_true rfl, Nat.le_of_ble_eq_true rfl⟩ d_law_575 (fun H locs u hu hW => ?_)
  obtain ⟨P', c2, h4⟩ := h3 u hu
  refine lv_aload_n X.x X.b d_law_578 rfl (lv_at hl 3 rfl) ?_
  refine lv_aload_n X.x X.b d_law_579 rfl (lv_at hl 1 rfl) ?_
  refine lv_iload_n X.x X.b d_law_580 rfl (lv_at hl 0 rfl) ?_
  refine lv_iconst (v := nI 1) X.x X.b d_law_581 (by decide) ?_
  refine lv_iadd X.x X.b d_law_582 ?_
  rw [nI_add]
  refine va_sld X.x X.b hX hbl hbA hW.2.2 (q_in (show i + 1 < L by omega) (by omega)) d_law_583 ?_
  rw [nI_clamp (by omega)]
  refine q_cvip X c2 hW (q_recv X hW ds_R rfl) ok_R_now mw_927 ⟨by show d2 + 1 ≤ 13; omega, by show 8 + (2 + 11) + 39 * d2 ≤ 512; omega⟩ (As := [.int (xs (i + 1))]) rfl rfl (Nat.le_of_ble_eq_true rfl) (lv := [(3, .int (nI i)), (0, .ref b), (1, .ref (eA E 0)), (2, .ref (eA E 70))]) hl ⟨Nat.le_of_ble_eq_true rfl, Nat.le_of_ble_eq_true rfl⟩ d_law_584 (fun H locs v hv hW => ?_)
  refine lv_icmp_eq (tgt := 1513) X.x X.b d_law_587 (by decide) (fun _ => kk v H locs (h4 v hv) hW) (fun z => absurd rfl z)
set_option maxHeartbeats 1000000 in
theorem law_ahead {p : Program} {l : Launch} {e : Env} {s : State} {m : MethodId} {below : List Frame} {meth : Method} {c : Code} {H : Heap} {locs : List Loc} {Q : State → Prop} {ls : Array Slot} {E : QE} {S : QM} {J : QM → Prop} {rt : Option FieldType} {b L i : Nat} {xs : Nat → Int32} (X : qX E p s m #[.ref b] meth c code 4 rt "CarelessMistLaw") (hX : va_X b L xs s s.heap) (hbl : b < s.heap.size) (hbA : ¬ qAA E s.heap.size b) (hi : i + 6 ≤ L) (hL : L ≤ 3072) (h : qH_ahead E l J) (hJ : J S) (hW : qWH E S s H locs) (hl : lv_has ls 4 [(3, .int (nI i)), (0, .ref b), (1, .ref (eA E 0)), (2, .ref (eA E 70))])
    (kk : ∀ (S : QM) (H : Heap) (locs : List Loc), J S → qWH E S s H locs → W p l e room_1 s m #[.ref b] below meth c H locs 82 1814 Q (F0 m 1513 ls [])) : W p l e room_1 s m #[.ref b] below meth c H locs 82 1814 Q (F0 m 592 ls []) := by
  obtain ⟨d1, d2, r, P, h1, h2, c1, h3⟩ := h S hJ (xs (i + 1)) (xs (i + 2)) (xs (i + 3))
  refine lv_aload_n X.x X.b d_law_592 rfl (lv_at hl 2 rfl) ?_
  refine lv_aload_n X.x X.b d_law_593 rfl (lv_at hl 1 rfl) ?_
  refine lv_iload_n X.x X.b d_law_594 rfl (lv_at hl 0 rfl) ?_
  refine lv_iconst (v := nI 1) X.x X.b d_law_595 (by decide) ?_
  refine lv_iadd X.x X.b d_law_596 ?_
  rw [nI_add]
  refine va_sld X.x X.b hX hbl hbA hW.2.2 (q_in (show i + 1 < L by omega) (by omega)) d_law_597 ?_
  rw [nI_clamp (by omega)]
  refine lv_aload_n X.x X.b d_law_598 rfl (lv_at hl 1 rfl) ?_
  refine lv_iload_n X.x X.b d_law_599 rfl (lv_at hl 0 rfl) ?_
  refine lv_iconst (v := nI 2) X.x X.b d_law_600 (by decide) ?_
  refine lv_iadd X.x X.b d_law_601 ?_
  rw [nI_add]
  refine va_sld X.x X.b hX hbl hbA hW.2.2 (q_in (show i + 2 < L by omega) (by omega)) d_law_602 ?_
  rw [nI_clamp (by omega)]
  refine lv_aload_n X.x X.b d_law_603 rfl (lv_at hl 1 rfl) ?_
  refine lv_iload_n X.x X.b d_law_604 rfl (lv_at hl 0 rfl) ?_
  refine lv_iconst (v := nI 3) X.x X.b d_law_605 (by decide) ?_
  refine lv_iadd X.x X.b d_law_606 ?_
  rw [nI_add]
  refine va_sld X.x X.b hX hbl hbA hW.2.2 (q_in (show i + 3 < L by omega) (by omega)) d_law_607 ?_
  rw [nI_clamp (by omega)]
  refine q_cvip X c1 hW (q_recv X hW ds_X rfl) ok_X_ahead mw_367 ⟨by show d1 + 1 ≤ 13; omega, by show 8 + (4 + 11) + 39 * d1 ≤ 512; omega⟩ (As := [.int (xs (i + 1)), .int (xs (i + 2)), .int (xs (i + 3))]) rfl rfl (Nat.le_of_ble_eq_true rfl) (lv := [(3, .int (nI i)), (0, .ref b), (1, .ref (eA E 0)), (2, .ref (eA E 70))]) hl ⟨Nat.le_of_ble_eq_true rfl, Nat.le_of_ble_eq_true rfl⟩ d_law_608 (fun H locs u hu hW => ?_)
  obtain ⟨P', c2, h4⟩ := h3 u hu
  refine lv_aload_n X.x X.b d_law_611 rfl (lv_at hl 3 rfl) ?_
  refine lv_aload_n X.x X.b d_law_612 rfl (lv_at hl 1 rfl) ?_
  refine lv_iload_n X.x X.b d_law_613 rfl (lv_at hl 0 rfl) ?_
  refine lv_iconst (v := nI 1) X.x X.b d_law_614 (by decide) ?_
  refine lv_iadd X.x X.b d_law_615 ?_
  rw [nI_add]
  refine va_sld X.x X.b hX hbl hbA hW.2.2 (q_in (show i + 1 < L by omega) (by omega)) d_law_616 ?_
  rw [nI_clamp (by omega)]
  refine lv_aload_n X.x X.b d_law_617 rfl (lv_at hl 1 rfl) ?_
  refine lv_iload_n X.x X.b d_law_618 rfl (lv_at hl 0 rfl) ?_
  refine lv_iconst (v := nI 2) X.x X.b d_law_619 (by decide) ?_
  refine lv_iadd X.x X.b d_law_620 ?_
  rw [nI_add]
  refine va_sld X.x X.b hX hbl hbA hW.2.2 (q_in (show i + 2 < L by omega) (by omega)) d_law_621 ?_
  rw [nI_clamp (by omega)]
  refine lv_aload_n X.x X.b d_law_622 rfl (lv_at hl 1 rfl) ?_
  refine lv_iload_n X.x X.b d_law_623 rfl (lv_at hl 0 rfl) ?_
  refine lv_iconst (v := nI 3) X.x X.b d_law_624 (by decide) ?_
  refine lv_iadd X.x X.b d_law_625 ?_
  rw [nI_add]
  refine va_sld X.x X.b hX hbl hbA hW.2.2 (q_in (show i + 3 < L by omega) (by omega)) d_law_626 ?_
  rw [nI_clamp (by omega)]
  refine q_cvip X c2 hW (q_recv X hW ds_R rfl) ok_R_ahead mw_951 ⟨by show d2 + 1 ≤ 13; omega, by show 8 + (4 + 11) + 39 * d2 ≤ 512; omega⟩ (As := [.int (xs (i + 1)), .int (xs (i + 2)), .int (xs (i + 3))]) rfl rfl (Nat.le_of_ble_eq_true rfl) (lv := [(3, .int (nI i)), (0, .ref b), (1, .ref (eA E 0)), (2, .ref (eA E 70))]) hl ⟨Nat.le_of_ble_eq_true rfl, Nat.le_of_ble_eq_true rfl⟩ d_law_627 (fun H locs v hv hW => ?_)
  refine lv_icmp_eq (tgt := 1513) X.x X.b d_law_630 (by decide) (fun _ => kk v H locs (h4 v hv) hW) (fun z => absurd rfl z)
set_option maxHeartbeats 1000000 in
theorem law_later {p : Program} {l : Launch} {e : Env} {s : State} {m : MethodId} {below : List Frame} {meth : Method} {c : Code} {H : Heap} {locs : List Loc} {Q : State → Prop} {ls : Array Slot} {E : QE} {S : QM} {J : QM → Prop} {rt : Option FieldType} {b L i : Nat} {xs : Nat → Int32} (X : qX E p s m #[.ref b] meth c code 4 rt "CarelessMistLaw") (hX : va_X b L xs s s.heap) (hbl : b < s.heap.size) (hbA : ¬ qAA E s.heap.size b) (hi : i + 6 ≤ L) (hL : L ≤ 3072) (h : qH_later E l J) (hJ : J S) (hW : qWH E S s H locs) (hl : lv_has ls 4 [(3, .int (nI i)), (0, .ref b), (1, .ref (eA E 0)), (2, .ref (eA E 70))])
    (kk : ∀ (S : QM) (H : Heap) (locs : List Loc), J S → qWH E S s H locs → W p l e room_1 s m #[.ref b] below meth c H locs 82 1814 Q (F0 m 1513 ls [])) : W p l e room_1 s m #[.ref b] below meth c H locs 82 1814 Q (F0 m 635 ls []) := by
  obtain ⟨d1, d2, r, P, h1, h2, c1, h3⟩ := h S hJ (xs (i + 1)) (xs (i + 2)) (xs (i + 3))
  refine lv_aload_n X.x X.b d_law_635 rfl (lv_at hl 2 rfl) ?_
  refine lv_aload_n X.x X.b d_law_636 rfl (lv_at hl 1 rfl) ?_
  refine lv_iload_n X.x X.b d_law_637 rfl (lv_at hl 0 rfl) ?_
  refine lv_iconst (v := nI 1) X.x X.b d_law_638 (by decide) ?_
  refine lv_iadd X.x X.b d_law_639 ?_
  rw [nI_add]
  refine va_sld X.x X.b hX hbl hbA hW.2.2 (q_in (show i + 1 < L by omega) (by omega)) d_law_640 ?_
  rw [nI_clamp (by omega)]
  refine lv_aload_n X.x X.b d_law_641 rfl (lv_at hl 1 rfl) ?_
  refine lv_iload_n X.x X.b d_law_642 rfl (lv_at hl 0 rfl) ?_
  refine lv_iconst (v := nI 2) X.x X.b d_law_643 (by decide) ?_
  refine lv_iadd X.x X.b d_law_644 ?_
  rw [nI_add]
  refine va_sld X.x X.b hX hbl hbA hW.2.2 (q_in (show i + 2 < L by omega) (by omega)) d_law_645 ?_
  rw [nI_clamp (by omega)]
  refine lv_aload_n X.x X.b d_law_646 rfl (lv_at hl 1 rfl) ?_
  refine lv_iload_n X.x X.b d_law_647 rfl (lv_at hl 0 rfl) ?_
  refine lv_iconst (v := nI 3) X.x X.b d_law_648 (by decide) ?_
  refine lv_iadd X.x X.b d_law_649 ?_
  rw [nI_add]
  refine va_sld X.x X.b hX hbl hbA hW.2.2 (q_in (show i + 3 < L by omega) (by omega)) d_law_650 ?_
  rw [nI_clamp (by omega)]
  refine q_cvip X c1 hW (q_recv X hW ds_X rfl) ok_X_later mw_382 ⟨by show d1 + 1 ≤ 13; omega, by show 8 + (5 + 11) + 39 * d1 ≤ 512; omega⟩ (As := [.int (xs (i + 1)), .int (xs (i + 2)), .int (xs (i + 3))]) rfl rfl (Nat.le_of_ble_eq_true rfl) (lv := [(3, .int (nI i)), (0, .ref b), (1, .ref (eA E 0)), (2, .ref (eA E 70))]) hl ⟨Nat.le_of_ble_eq_true rfl, Nat.le_of_ble_eq_true rfl⟩ d_law_651 (fun H locs u hu hW => ?_)
  obtain ⟨P', c2, h4⟩ := h3 u hu
  refine lv_aload_n X.x X.b d_law_654 rfl (lv_at hl 3 rfl) ?_
  refine lv_aload_n X.x X.b d_law_655 rfl (lv_at hl 1 rfl) ?_
  refine lv_iload_n X.x X.b d_law_656 rfl (lv_at hl 0 rfl) ?_
  refine lv_iconst (v := nI 1) X.x X.b d_law_657 (by decide) ?_
  refine lv_iadd X.x X.b d_law_658 ?_
  rw [nI_add]
  refine va_sld X.x X.b hX hbl hbA hW.2.2 (q_in (show i + 1 < L by omega) (by omega)) d_law_659 ?_
  rw [nI_clamp (by omega)]
  refine lv_aload_n X.x X.b d_law_660 rfl (lv_at hl 1 rfl) ?_
  refine lv_iload_n X.x X.b d_law_661 rfl (lv_at hl 0 rfl) ?_
  refine lv_iconst (v := nI 2) X.x X.b d_law_662 (by decide) ?_
  refine lv_iadd X.x X.b d_law_663 ?_
  rw [nI_add]
  refine va_sld X.x X.b hX hbl hbA hW.2.2 (q_in (show i + 2 < L by omega) (by omega)) d_law_664 ?_
  rw [nI_clamp (by omega)]
  refine lv_aload_n X.x X.b d_law_665 rfl (lv_at hl 1 rfl) ?_
  refine lv_iload_n X.x X.b d_law_666 rfl (lv_at hl 0 rfl) ?_
  refine lv_iconst (v := nI 3) X.x X.b d_law_667 (by decide) ?_
  refine lv_iadd X.x X.b d_law_668 ?_
  rw [nI_add]
  refine va_sld X.x X.b hX hbl hbA hW.2.2 (q_in (show i + 3 < L by omega) (by omega)) d_law_669 ?_
  rw [nI_clamp (by omega)]
  refine q_cvip X c2 hW (q_recv X hW ds_R rfl) ok_R_later mw_966 ⟨by show d2 + 1 ≤ 13; omega, by show 8 + (5 + 11) + 39 * d2 ≤ 512; omega⟩ (As := [.int (xs (i + 1)), .int (xs (i + 2)), .int (xs (i + 3))]) rfl rfl (Nat.le_of_ble_eq_true rfl) (lv := [(3, .int (nI i)), (0, .ref b), (1, .ref (eA E 0)), (2, .ref (eA E 70))]) hl ⟨Nat.le_of_ble_eq_true rfl, Nat.le_of_ble_eq_true rfl⟩ d_law_670 (fun H locs v hv hW => ?_)
  refine lv_icmp_eq (tgt := 1513) X.x X.b d_law_673 (by decide) (fun _ => kk v H locs (h4 v hv) hW) (fun z => absurd rfl z)
set_option maxHeartbeats 1000000 in
theorem law_arrives {p : Program} {l : Launch} {e : Env} {s : State} {m : MethodId} {below : List Frame} {meth : Method} {c : Code} {H : Heap} {locs : List Loc} {Q : State → Prop} {ls : Array Slot} {E : QE} {S : QM} {J : QM → Prop} {rt : Option FieldType} {b L i : Nat} {xs : Nat → Int32} (X : qX E p s m #[.ref b] meth c code 4 rt "CarelessMistLaw") (hX : va_X b L xs s s.heap) (hbl : b < s.heap.size) (hbA : ¬ qAA E s.heap.size b) (hi : i + 6 ≤ L) (hL : L ≤ 3072) (h : qH_arrives E l J) (hJ : J S) (hW : qWH E S s H locs) (hl : lv_has ls 4 [(3, .int (nI i)), (0, .ref b), (1, .ref (eA E 0)), (2, .ref (eA E 70))])
    (kk : ∀ (S : QM) (H : Heap) (locs : List Loc), J S → qWH E S s H locs → W p l e room_1 s m #[.ref b] below meth c H locs 82 1814 Q (F0 m 1513 ls [])) : W p l e room_1 s m #[.ref b] below meth c H locs 82 1814 Q (F0 m 678 ls []) := by
  obtain ⟨d1, d2, r, P, h1, h2, c1, h3⟩ := h S hJ (xs (i + 1)) (xs (i + 2))
  refine lv_aload_n X.x X.b d_law_678 rfl (lv_at hl 2 rfl) ?_
  refine lv_aload_n X.x X.b d_law_679 rfl (lv_at hl 1 rfl) ?_
  refine lv_iload_n X.x X.b d_law_680 rfl (lv_at hl 0 rfl) ?_
  refine lv_iconst (v := nI 1) X.x X.b d_law_681 (by decide) ?_
  refine lv_iadd X.x X.b d_law_682 ?_
  rw [nI_add]
  refine va_sld X.x X.b hX hbl hbA hW.2.2 (q_in (show i + 1 < L by omega) (by omega)) d_law_683 ?_
  rw [nI_clamp (by omega)]
  refine lv_aload_n X.x X.b d_law_684 rfl (lv_at hl 1 rfl) ?_
  refine lv_iload_n X.x X.b d_law_685 rfl (lv_at hl 0 rfl) ?_
  refine lv_iconst (v := nI 2) X.x X.b d_law_686 (by decide) ?_
  refine lv_iadd X.x X.b d_law_687 ?_
  rw [nI_add]
  refine va_sld X.x X.b hX hbl hbA hW.2.2 (q_in (show i + 2 < L by omega) (by omega)) d_law_688 ?_
  rw [nI_clamp (by omega)]
  refine q_cvip X c1 hW (q_recv X hW ds_X rfl) ok_X_arrives mw_386 ⟨by show d1 + 1 ≤ 13; omega, by show 8 + (4 + 11) + 39 * d1 ≤ 512; omega⟩ (As := [.int (xs (i + 1)), .int (xs (i + 2))]) rfl rfl (Nat.le_of_ble_eq_true rfl) (lv := [(3, .int (nI i)), (0, .ref b), (1, .ref (eA E 0)), (2, .ref (eA E 70))]) hl ⟨Nat.le_of_ble_eq_true rfl, Nat.le_of_ble_eq_true rfl⟩ d_law_689 (fun H locs u hu hW => ?_)
  obtain ⟨P', c2, h4⟩ := h3 u hu
  refine lv_aload_n X.x X.b d_law_692 rfl (lv_at hl 3 rfl) ?_
  refine lv_aload_n X.x X.b d_law_693 rfl (lv_at hl 1 rfl) ?_
  refine lv_iload_n X.x X.b d_law_694 rfl (lv_at hl 0 rfl) ?_
  refine lv_iconst (v := nI 1) X.x X.b d_law_695 (by decide) ?_
  refine lv_iadd X.x X.b d_law_696 ?_
  rw [nI_add]
  refine va_sld X.x X.b hX hbl hbA hW.2.2 (q_in (show i + 1 < L by omega) (by omega)) d_law_697 ?_
  rw [nI_clamp (by omega)]
  refine lv_aload_n X.x X.b d_law_698 rfl (lv_at hl 1 rfl) ?_
  refine lv_iload_n X.x X.b d_law_699 rfl (lv_at hl 0 rfl) ?_
  refine lv_iconst (v := nI 2) X.x X.b d_law_700 (by decide) ?_
  refine lv_iadd X.x X.b d_law_701 ?_
  rw [nI_add]
  refine va_sld X.x X.b hX hbl hbA hW.2.2 (q_in (show i + 2 < L by omega) (by omega)) d_law_702 ?_
  rw [nI_clamp (by omega)]
  refine q_cvip X c2 hW (q_recv X hW ds_R rfl) ok_R_arrives mw_970 ⟨by show d2 + 1 ≤ 13; omega, by show 8 + (4 + 11) + 39 * d2 ≤ 512; omega⟩ (As := [.int (xs (i + 1)), .int (xs (i + 2))]) rfl rfl (Nat.le_of_ble_eq_true rfl) (lv := [(3, .int (nI i)), (0, .ref b), (1, .ref (eA E 0)), (2, .ref (eA E 70))]) hl ⟨Nat.le_of_ble_eq_true rfl, Nat.le_of_ble_eq_true rfl⟩ d_law_703 (fun H locs v hv hW => ?_)
  refine lv_icmp_eq (tgt := 1513) X.x X.b d_law_706 (by decide) (fun _ => kk v H locs (h4 v hv) hW) (fun z => absurd rfl z)
set_option maxHeartbeats 1000000 in
theorem law_spies {p : Program} {l : Launch} {e : Env} {s : State} {m : MethodId} {below : List Frame} {meth : Method} {c : Code} {H : Heap} {locs : List Loc} {Q : State → Prop} {ls : Array Slot} {E : QE} {S : QM} {J : QM → Prop} {rt : Option FieldType} {b L i : Nat} {xs : Nat → Int32} (X : qX E p s m #[.ref b] meth c code 4 rt "CarelessMistLaw") (hX : va_X b L xs s s.heap) (hbl : b < s.heap.size) (hbA : ¬ qAA E s.heap.size b) (hi : i + 6 ≤ L) (hL : L ≤ 3072) (h : qH_spies E l J) (hJ : J S) (hW : qWH E S s H locs) (hl : lv_has ls 4 [(3, .int (nI i)), (0, .ref b), (1, .ref (eA E 0)), (2, .ref (eA E 70))])
    (kk : ∀ (S : QM) (H : Heap) (locs : List Loc), J S → qWH E S s H locs → W p l e room_1 s m #[.ref b] below meth c H locs 82 1814 Q (F0 m 1513 ls [])) : W p l e room_1 s m #[.ref b] below meth c H locs 82 1814 Q (F0 m 711 ls []) := by
  obtain ⟨d1, d2, r, P, h1, h2, c1, h3⟩ := h S hJ (xs (i + 1)) (xs (i + 2))
  refine lv_aload_n X.x X.b d_law_711 rfl (lv_at hl 2 rfl) ?_
  refine lv_aload_n X.x X.b d_law_712 rfl (lv_at hl 1 rfl) ?_
  refine lv_iload_n X.x X.b d_law_713 rfl (lv_at hl 0 rfl) ?_
  refine lv_iconst (v := nI 1) X.x X.b d_law_714 (by decide) ?_
  refine lv_iadd X.x X.b d_law_715 ?_
  rw [nI_add]
  refine va_sld X.x X.b hX hbl hbA hW.2.2 (q_in (show i + 1 < L by omega) (by omega)) d_law_716 ?_
  rw [nI_clamp (by omega)]
  refine lv_aload_n X.x X.b d_law_717 rfl (lv_at hl 1 rfl) ?_
  refine lv_iload_n X.x X.b d_law_718 rfl (lv_at hl 0 rfl) ?_
  refine lv_iconst (v := nI 2) X.x X.b d_law_719 (by decide) ?_
  refine lv_iadd X.x X.b d_law_720 ?_
  rw [nI_add]
  refine va_sld X.x X.b hX hbl hbA hW.2.2 (q_in (show i + 2 < L by omega) (by omega)) d_law_721 ?_
  rw [nI_clamp (by omega)]
  refine q_cvip X c1 hW (q_recv X hW ds_X rfl) ok_X_spies mw_391 ⟨by show d1 + 1 ≤ 13; omega, by show 8 + (4 + 11) + 39 * d1 ≤ 512; omega⟩ (As := [.int (xs (i + 1)), .int (xs (i + 2))]) rfl rfl (Nat.le_of_ble_eq_true rfl) (lv := [(3, .int (nI i)), (0, .ref b), (1, .ref (eA E 0)), (2, .ref (eA E 70))]) hl ⟨Nat.le_of_ble_eq_true rfl, Nat.le_of_ble_eq_true rfl⟩ d_law_722 (fun H locs u hu hW => ?_)
  obtain ⟨P', c2, h4⟩ := h3 u hu
  refine lv_aload_n X.x X.b d_law_725 rfl (lv_at hl 3 rfl) ?_
  refine lv_aload_n X.x X.b d_law_726 rfl (lv_at hl 1 rfl) ?_
  refine lv_iload_n X.x X.b d_law_727 rfl (lv_at hl 0 rfl) ?_
  refine lv_iconst (v := nI 1) X.x X.b d_law_728 (by decide) ?_
  refine lv_iadd X.x X.b d_law_729 ?_
  rw [nI_add]
  refine va_sld X.x X.b hX hbl hbA hW.2.2 (q_in (show i + 1 < L by omega) (by omega)) d_law_730 ?_
  rw [nI_clamp (by omega)]
  refine lv_aload_n X.x X.b d_law_731 rfl (lv_at hl 1 rfl) ?_
  refine lv_iload_n X.x X.b d_law_732 rfl (lv_at hl 0 rfl) ?_
  refine lv_iconst (v := nI 2) X.x X.b d_law_733 (by decide) ?_
  refine lv_iadd X.x X.b d_law_734 ?_
  rw [nI_add]
  refine va_sld X.x X.b hX hbl hbA hW.2.2 (q_in (show i + 2 < L by omega) (by omega)) d_law_735 ?_
  rw [nI_clamp (by omega)]
  refine q_cvip X c2 hW (q_recv X hW ds_R rfl) ok_R_spies mw_979 ⟨by show d2 + 1 ≤ 13; omega, by show 8 + (4 + 11) + 39 * d2 ≤ 512; omega⟩ (As := [.int (xs (i + 1)), .int (xs (i + 2))]) rfl rfl (Nat.le_of_ble_eq_true rfl) (lv := [(3, .int (nI i)), (0, .ref b), (1, .ref (eA E 0)), (2, .ref (eA E 70))]) hl ⟨Nat.le_of_ble_eq_true rfl, Nat.le_of_ble_eq_true rfl⟩ d_law_736 (fun H locs v hv hW => ?_)
  refine lv_icmp_eq (tgt := 1513) X.x X.b d_law_739 (by decide) (fun _ => kk v H locs (h4 v hv) hW) (fun z => absurd rfl z)
set_option maxHeartbeats 1000000 in
theorem law_meet {p : Program} {l : Launch} {e : Env} {s : State} {m : MethodId} {below : List Frame} {meth : Method} {c : Code} {H : Heap} {locs : List Loc} {Q : State → Prop} {ls : Array Slot} {E : QE} {S : QM} {J : QM → Prop} {rt : Option FieldType} {b L i : Nat} {xs : Nat → Int32} (X : qX E p s m #[.ref b] meth c code 4 rt "CarelessMistLaw") (hX : va_X b L xs s s.heap) (hbl : b < s.heap.size) (hbA : ¬ qAA E s.heap.size b) (hi : i + 6 ≤ L) (hL : L ≤ 3072) (h : qH_meet E l J) (hJ : J S) (hW : qWH E S s H locs) (hl : lv_has ls 4 [(3, .int (nI i)), (0, .ref b), (1, .ref (eA E 0)), (2, .ref (eA E 70))])
    (kk : ∀ (S : QM) (H : Heap) (locs : List Loc), J S → qWH E S s H locs → W p l e room_1 s m #[.ref b] below meth c H locs 82 1814 Q (F0 m 1513 ls [])) : W p l e room_1 s m #[.ref b] below meth c H locs 82 1814 Q (F0 m 744 ls []) := by
  obtain ⟨d1, d2, r, P, h1, h2, c1, h3⟩ := h S hJ (xs (i + 1)) (xs (i + 2))
  refine lv_aload_n X.x X.b d_law_744 rfl (lv_at hl 2 rfl) ?_
  refine lv_aload_n X.x X.b d_law_745 rfl (lv_at hl 1 rfl) ?_
  refine lv_iload_n X.x X.b d_law_746 rfl (lv_at hl 0 rfl) ?_
  refine lv_iconst (v := nI 1) X.x X.b d_law_747 (by decide) ?_
  refine lv_iadd X.x X.b d_law_748 ?_
  rw [nI_add]
  refine va_sld X.x X.b hX hbl hbA hW.2.2 (q_in (show i + 1 < L by omega) (by omega)) d_law_749 ?_
  rw [nI_clamp (by omega)]
  refine lv_aload_n X.x X.b d_law_750 rfl (lv_at hl 1 rfl) ?_
  refine lv_iload_n X.x X.b d_law_751 rfl (lv_at hl 0 rfl) ?_
  refine lv_iconst (v := nI 2) X.x X.b d_law_752 (by decide) ?_
  refine lv_iadd X.x X.b d_law_753 ?_
  rw [nI_add]
  refine va_sld X.x X.b hX hbl hbA hW.2.2 (q_in (show i + 2 < L by omega) (by omega)) d_law_754 ?_
  rw [nI_clamp (by omega)]
  refine q_cvip X c1 hW (q_recv X hW ds_X rfl) ok_X_meet mw_395 ⟨by show d1 + 1 ≤ 13; omega, by show 8 + (4 + 11) + 39 * d1 ≤ 512; omega⟩ (As := [.int (xs (i + 1)), .int (xs (i + 2))]) rfl rfl (Nat.le_of_ble_eq_true rfl) (lv := [(3, .int (nI i)), (0, .ref b), (1, .ref (eA E 0)), (2, .ref (eA E 70))]) hl ⟨Nat.le_of_ble_eq_true rfl, Nat.le_of_ble_eq_true rfl⟩ d_law_755 (fun H locs u hu hW => ?_)
  obtain ⟨P', c2, h4⟩ := h3 u hu
  refine lv_aload_n X.x X.b d_law_758 rfl (lv_at hl 3 rfl) ?_
  refine lv_aload_n X.x X.b d_law_759 rfl (lv_at hl 1 rfl) ?_
  refine lv_iload_n X.x X.b d_law_760 rfl (lv_at hl 0 rfl) ?_
  refine lv_iconst (v := nI 1) X.x X.b d_law_761 (by decide) ?_
  refine lv_iadd X.x X.b d_law_762 ?_
  rw [nI_add]
  refine va_sld X.x X.b hX hbl hbA hW.2.2 (q_in (show i + 1 < L by omega) (by omega)) d_law_763 ?_
  rw [nI_clamp (by omega)]
  refine lv_aload_n X.x X.b d_law_764 rfl (lv_at hl 1 rfl) ?_
  refine lv_iload_n X.x X.b d_law_765 rfl (lv_at hl 0 rfl) ?_
  refine lv_iconst (v := nI 2) X.x X.b d_law_766 (by decide) ?_
  refine lv_iadd X.x X.b d_law_767 ?_
  rw [nI_add]
  refine va_sld X.x X.b hX hbl hbA hW.2.2 (q_in (show i + 2 < L by omega) (by omega)) d_law_768 ?_
  rw [nI_clamp (by omega)]
  refine q_cvip X c2 hW (q_recv X hW ds_R rfl) ok_R_meet mw_983 ⟨by show d2 + 1 ≤ 13; omega, by show 8 + (4 + 11) + 39 * d2 ≤ 512; omega⟩ (As := [.int (xs (i + 1)), .int (xs (i + 2))]) rfl rfl (Nat.le_of_ble_eq_true rfl) (lv := [(3, .int (nI i)), (0, .ref b), (1, .ref (eA E 0)), (2, .ref (eA E 70))]) hl ⟨Nat.le_of_ble_eq_true rfl, Nat.le_of_ble_eq_true rfl⟩ d_law_769 (fun H locs v hv hW => ?_)
  refine lv_icmp_eq (tgt := 1513) X.x X.b d_law_772 (by decide) (fun _ => kk v H locs (h4 v hv) hW) (fun z => absurd rfl z)
set_option maxHeartbeats 1000000 in
theorem law_startFor {p : Program} {l : Launch} {e : Env} {s : State} {m : MethodId} {below : List Frame} {meth : Method} {c : Code} {H : Heap} {locs : List Loc} {Q : State → Prop} {ls : Array Slot} {E : QE} {S : QM} {J : QM → Prop} {rt : Option FieldType} {b L i : Nat} {xs : Nat → Int32} (X : qX E p s m #[.ref b] meth c code 4 rt "CarelessMistLaw") (hX : va_X b L xs s s.heap) (hbl : b < s.heap.size) (hbA : ¬ qAA E s.heap.size b) (hi : i + 6 ≤ L) (hL : L ≤ 3072) (h : qH_startFor E l J) (hJ : J S) (hW : qWH E S s H locs) (hl : lv_has ls 4 [(3, .int (nI i)), (0, .ref b), (1, .ref (eA E 0)), (2, .ref (eA E 70))])
    (kk : ∀ (S : QM) (H : Heap) (locs : List Loc), J S → qWH E S s H locs → W p l e room_1 s m #[.ref b] below meth c H locs 82 1814 Q (F0 m 1513 ls [])) : W p l e room_1 s m #[.ref b] below meth c H locs 82 1814 Q (F0 m 777 ls []) := by
  obtain ⟨d1, d2, r, P, h1, h2, c1, h3⟩ := h S hJ (xs (i + 1)) (xs (i + 2))
  refine lv_aload_n X.x X.b d_law_777 rfl (lv_at hl 2 rfl) ?_
  refine lv_aload_n X.x X.b d_law_778 rfl (lv_at hl 1 rfl) ?_
  refine lv_iload_n X.x X.b d_law_779 rfl (lv_at hl 0 rfl) ?_
  refine lv_iconst (v := nI 1) X.x X.b d_law_780 (by decide) ?_
  refine lv_iadd X.x X.b d_law_781 ?_
  rw [nI_add]
  refine va_sld X.x X.b hX hbl hbA hW.2.2 (q_in (show i + 1 < L by omega) (by omega)) d_law_782 ?_
  rw [nI_clamp (by omega)]
  refine lv_aload_n X.x X.b d_law_783 rfl (lv_at hl 1 rfl) ?_
  refine lv_iload_n X.x X.b d_law_784 rfl (lv_at hl 0 rfl) ?_
  refine lv_iconst (v := nI 2) X.x X.b d_law_785 (by decide) ?_
  refine lv_iadd X.x X.b d_law_786 ?_
  rw [nI_add]
  refine va_sld X.x X.b hX hbl hbA hW.2.2 (q_in (show i + 2 < L by omega) (by omega)) d_law_787 ?_
  rw [nI_clamp (by omega)]
  refine q_cvip X c1 hW (q_recv X hW ds_X rfl) ok_X_startFor mw_399 ⟨by show d1 + 1 ≤ 13; omega, by show 8 + (3 + 11) + 39 * d1 ≤ 512; omega⟩ (As := [.int (xs (i + 1)), .int (xs (i + 2))]) rfl rfl (Nat.le_of_ble_eq_true rfl) (lv := [(3, .int (nI i)), (0, .ref b), (1, .ref (eA E 0)), (2, .ref (eA E 70))]) hl ⟨Nat.le_of_ble_eq_true rfl, Nat.le_of_ble_eq_true rfl⟩ d_law_788 (fun H locs u hu hW => ?_)
  obtain ⟨P', c2, h4⟩ := h3 u hu
  refine lv_aload_n X.x X.b d_law_791 rfl (lv_at hl 3 rfl) ?_
  refine lv_aload_n X.x X.b d_law_792 rfl (lv_at hl 1 rfl) ?_
  refine lv_iload_n X.x X.b d_law_793 rfl (lv_at hl 0 rfl) ?_
  refine lv_iconst (v := nI 1) X.x X.b d_law_794 (by decide) ?_
  refine lv_iadd X.x X.b d_law_795 ?_
  rw [nI_add]
  refine va_sld X.x X.b hX hbl hbA hW.2.2 (q_in (show i + 1 < L by omega) (by omega)) d_law_796 ?_
  rw [nI_clamp (by omega)]
  refine lv_aload_n X.x X.b d_law_797 rfl (lv_at hl 1 rfl) ?_
  refine lv_iload_n X.x X.b d_law_798 rfl (lv_at hl 0 rfl) ?_
  refine lv_iconst (v := nI 2) X.x X.b d_law_799 (by decide) ?_
  refine lv_iadd X.x X.b d_law_800 ?_
  rw [nI_add]
  refine va_sld X.x X.b hX hbl hbA hW.2.2 (q_in (show i + 2 < L by omega) (by omega)) d_law_801 ?_
  rw [nI_clamp (by omega)]
  refine q_cvip X c2 hW (q_recv X hW ds_R rfl) ok_R_startFor mw_991 ⟨by show d2 + 1 ≤ 13; omega, by show 8 + (3 + 11) + 39 * d2 ≤ 512; omega⟩ (As := [.int (xs (i + 1)), .int (xs (i + 2))]) rfl rfl (Nat.le_of_ble_eq_true rfl) (lv := [(3, .int (nI i)), (0, .ref b), (1, .ref (eA E 0)), (2, .ref (eA E 70))]) hl ⟨Nat.le_of_ble_eq_true rfl, Nat.le_of_ble_eq_true rfl⟩ d_law_802 (fun H locs v hv hW => ?_)
  refine lv_icmp_eq (tgt := 1513) X.x X.b d_law_805 (by decide) (fun _ => kk v H locs (h4 v hv) hW) (fun z => absurd rfl z)
set_option maxHeartbeats 1000000 in
theorem law_aimFor {p : Program} {l : Launch} {e : Env} {s : State} {m : MethodId} {below : List Frame} {meth : Method} {c : Code} {H : Heap} {locs : List Loc} {Q : State → Prop} {ls : Array Slot} {E : QE} {S : QM} {J : QM → Prop} {rt : Option FieldType} {b L i : Nat} {xs : Nat → Int32} (X : qX E p s m #[.ref b] meth c code 4 rt "CarelessMistLaw") (hX : va_X b L xs s s.heap) (hbl : b < s.heap.size) (hbA : ¬ qAA E s.heap.size b) (hi : i + 6 ≤ L) (hL : L ≤ 3072) (h : qH_aimFor E l J) (hJ : J S) (hW : qWH E S s H locs) (hl : lv_has ls 4 [(3, .int (nI i)), (0, .ref b), (1, .ref (eA E 0)), (2, .ref (eA E 70))])
    (kk : ∀ (S : QM) (H : Heap) (locs : List Loc), J S → qWH E S s H locs → W p l e room_1 s m #[.ref b] below meth c H locs 82 1814 Q (F0 m 1513 ls [])) : W p l e room_1 s m #[.ref b] below meth c H locs 82 1814 Q (F0 m 810 ls []) := by
  obtain ⟨d1, d2, r, P, h1, h2, c1, h3⟩ := h S hJ (xs (i + 1)) (xs (i + 2))
  refine lv_aload_n X.x X.b d_law_810 rfl (lv_at hl 2 rfl) ?_
  refine lv_aload_n X.x X.b d_law_811 rfl (lv_at hl 1 rfl) ?_
  refine lv_iload_n X.x X.b d_law_812 rfl (lv_at hl 0 rfl) ?_
  refine lv_iconst (v := nI 1) X.x X.b d_law_813 (by decide) ?_
  refine lv_iadd X.x X.b d_law_814 ?_
  rw [nI_add]
  refine va_sld X.x X.b hX hbl hbA hW.2.2 (q_in (show i + 1 < L by omega) (by omega)) d_law_815 ?_
  rw [nI_clamp (by omega)]
  refine lv_aload_n X.x X.b d_law_816 rfl (lv_at hl 1 rfl) ?_
  refine lv_iload_n X.x X.b d_law_817 rfl (lv_at hl 0 rfl) ?_
  refine lv_iconst (v := nI 2) X.x X.b d_law_818 (by decide) ?_
  refine lv_iadd X.x X.b d_law_819 ?_
  rw [nI_add]
  refine va_sld X.x X.b hX hbl hbA hW.2.2 (q_in (show i + 2 < L by omega) (by omega)) d_law_820 ?_
  rw [nI_clamp (by omega)]
  refine q_cvip X c1 hW (q_recv X hW ds_X rfl) ok_X_aimFor mw_411 ⟨by show d1 + 1 ≤ 13; omega, by show 8 + (3 + 11) + 39 * d1 ≤ 512; omega⟩ (As := [.int (xs (i + 1)), .int (xs (i + 2))]) rfl rfl (Nat.le_of_ble_eq_true rfl) (lv := [(3, .int (nI i)), (0, .ref b), (1, .ref (eA E 0)), (2, .ref (eA E 70))]) hl ⟨Nat.le_of_ble_eq_true rfl, Nat.le_of_ble_eq_true rfl⟩ d_law_821 (fun H locs u hu hW => ?_)
  obtain ⟨P', c2, h4⟩ := h3 u hu
  refine lv_aload_n X.x X.b d_law_824 rfl (lv_at hl 3 rfl) ?_
  refine lv_aload_n X.x X.b d_law_825 rfl (lv_at hl 1 rfl) ?_
  refine lv_iload_n X.x X.b d_law_826 rfl (lv_at hl 0 rfl) ?_
  refine lv_iconst (v := nI 1) X.x X.b d_law_827 (by decide) ?_
  refine lv_iadd X.x X.b d_law_828 ?_
  rw [nI_add]
  refine va_sld X.x X.b hX hbl hbA hW.2.2 (q_in (show i + 1 < L by omega) (by omega)) d_law_829 ?_
  rw [nI_clamp (by omega)]
  refine lv_aload_n X.x X.b d_law_830 rfl (lv_at hl 1 rfl) ?_
  refine lv_iload_n X.x X.b d_law_831 rfl (lv_at hl 0 rfl) ?_
  refine lv_iconst (v := nI 2) X.x X.b d_law_832 (by decide) ?_
  refine lv_iadd X.x X.b d_law_833 ?_
  rw [nI_add]
  refine va_sld X.x X.b hX hbl hbA hW.2.2 (q_in (show i + 2 < L by omega) (by omega)) d_law_834 ?_
  rw [nI_clamp (by omega)]
  refine q_cvip X c2 hW (q_recv X hW ds_R rfl) ok_R_aimFor mw_1002 ⟨by show d2 + 1 ≤ 13; omega, by show 8 + (3 + 11) + 39 * d2 ≤ 512; omega⟩ (As := [.int (xs (i + 1)), .int (xs (i + 2))]) rfl rfl (Nat.le_of_ble_eq_true rfl) (lv := [(3, .int (nI i)), (0, .ref b), (1, .ref (eA E 0)), (2, .ref (eA E 70))]) hl ⟨Nat.le_of_ble_eq_true rfl, Nat.le_of_ble_eq_true rfl⟩ d_law_835 (fun H locs v hv hW => ?_)
  refine lv_icmp_eq (tgt := 1513) X.x X.b d_law_838 (by decide) (fun _ => kk v H locs (h4 v hv) hW) (fun z => absurd rfl z)
set_option maxHeartbeats 1000000 in
theorem law_kindFor {p : Program} {l : Launch} {e : Env} {s : State} {m : MethodId} {below : List Frame} {meth : Method} {c : Code} {H : Heap} {locs : List Loc} {Q : State → Prop} {ls : Array Slot} {E : QE} {S : QM} {J : QM → Prop} {rt : Option FieldType} {b L i : Nat} {xs : Nat → Int32} (X : qX E p s m #[.ref b] meth c code 4 rt "CarelessMistLaw") (hX : va_X b L xs s s.heap) (hbl : b < s.heap.size) (hbA : ¬ qAA E s.heap.size b) (hi : i + 6 ≤ L) (hL : L ≤ 3072) (h : qH_kindFor E l J) (hJ : J S) (hW : qWH E S s H locs) (hl : lv_has ls 4 [(3, .int (nI i)), (0, .ref b), (1, .ref (eA E 0)), (2, .ref (eA E 70))])
    (kk : ∀ (S : QM) (H : Heap) (locs : List Loc), J S → qWH E S s H locs → W p l e room_1 s m #[.ref b] below meth c H locs 82 1814 Q (F0 m 1513 ls [])) : W p l e room_1 s m #[.ref b] below meth c H locs 82 1814 Q (F0 m 843 ls []) := by
  obtain ⟨d1, d2, r, P, h1, h2, c1, h3⟩ := h S hJ (xs (i + 1)) (xs (i + 2))
  refine lv_aload_n X.x X.b d_law_843 rfl (lv_at hl 2 rfl) ?_
  refine lv_aload_n X.x X.b d_law_844 rfl (lv_at hl 1 rfl) ?_
  refine lv_iload_n X.x X.b d_law_845 rfl (lv_at hl 0 rfl) ?_
  refine lv_iconst (v := nI 1) X.x X.b d_law_846 (by decide) ?_
  refine lv_iadd X.x X.b d_law_847 ?_
  rw [nI_add]
  refine va_sld X.x X.b hX hbl hbA hW.2.2 (q_in (show i + 1 < L by omega) (by omega)) d_law_848 ?_
  rw [nI_clamp (by omega)]
  refine lv_aload_n X.x X.b d_law_849 rfl (lv_at hl 1 rfl) ?_
  refine lv_iload_n X.x X.b d_law_850 rfl (lv_at hl 0 rfl) ?_
  refine lv_iconst (v := nI 2) X.x X.b d_law_851 (by decide) ?_
  refine lv_iadd X.x X.b d_law_852 ?_
  rw [nI_add]
  refine va_sld X.x X.b hX hbl hbA hW.2.2 (q_in (show i + 2 < L by omega) (by omega)) d_law_853 ?_
  rw [nI_clamp (by omega)]
  refine q_cvip X c1 hW (q_recv X hW ds_X rfl) ok_X_kindFor mw_415 ⟨by show d1 + 1 ≤ 13; omega, by show 8 + (7 + 11) + 39 * d1 ≤ 512; omega⟩ (As := [.int (xs (i + 1)), .int (xs (i + 2))]) rfl rfl (Nat.le_of_ble_eq_true rfl) (lv := [(3, .int (nI i)), (0, .ref b), (1, .ref (eA E 0)), (2, .ref (eA E 70))]) hl ⟨Nat.le_of_ble_eq_true rfl, Nat.le_of_ble_eq_true rfl⟩ d_law_854 (fun H locs u hu hW => ?_)
  obtain ⟨P', c2, h4⟩ := h3 u hu
  refine lv_aload_n X.x X.b d_law_857 rfl (lv_at hl 3 rfl) ?_
  refine lv_aload_n X.x X.b d_law_858 rfl (lv_at hl 1 rfl) ?_
  refine lv_iload_n X.x X.b d_law_859 rfl (lv_at hl 0 rfl) ?_
  refine lv_iconst (v := nI 1) X.x X.b d_law_860 (by decide) ?_
  refine lv_iadd X.x X.b d_law_861 ?_
  rw [nI_add]
  refine va_sld X.x X.b hX hbl hbA hW.2.2 (q_in (show i + 1 < L by omega) (by omega)) d_law_862 ?_
  rw [nI_clamp (by omega)]
  refine lv_aload_n X.x X.b d_law_863 rfl (lv_at hl 1 rfl) ?_
  refine lv_iload_n X.x X.b d_law_864 rfl (lv_at hl 0 rfl) ?_
  refine lv_iconst (v := nI 2) X.x X.b d_law_865 (by decide) ?_
  refine lv_iadd X.x X.b d_law_866 ?_
  rw [nI_add]
  refine va_sld X.x X.b hX hbl hbA hW.2.2 (q_in (show i + 2 < L by omega) (by omega)) d_law_867 ?_
  rw [nI_clamp (by omega)]
  refine q_cvip X c2 hW (q_recv X hW ds_R rfl) ok_R_kindFor mw_1006 ⟨by show d2 + 1 ≤ 13; omega, by show 8 + (3 + 11) + 39 * d2 ≤ 512; omega⟩ (As := [.int (xs (i + 1)), .int (xs (i + 2))]) rfl rfl (Nat.le_of_ble_eq_true rfl) (lv := [(3, .int (nI i)), (0, .ref b), (1, .ref (eA E 0)), (2, .ref (eA E 70))]) hl ⟨Nat.le_of_ble_eq_true rfl, Nat.le_of_ble_eq_true rfl⟩ d_law_868 (fun H locs v hv hW => ?_)
  refine lv_icmp_eq (tgt := 1513) X.x X.b d_law_871 (by decide) (fun _ => kk v H locs (h4 v hv) hW) (fun z => absurd rfl z)
set_option maxHeartbeats 1000000 in
theorem law_paceFor {p : Program} {l : Launch} {e : Env} {s : State} {m : MethodId} {below : List Frame} {meth : Method} {c : Code} {H : Heap} {locs : List Loc} {Q : State → Prop} {ls : Array Slot} {E : QE} {S : QM} {J : QM → Prop} {rt : Option FieldType} {b L i : Nat} {xs : Nat → Int32} (X : qX E p s m #[.ref b] meth c code 4 rt "CarelessMistLaw") (hX : va_X b L xs s s.heap) (hbl : b < s.heap.size) (hbA : ¬ qAA E s.heap.size b) (hi : i + 6 ≤ L) (hL : L ≤ 3072) (h : qH_paceFor E l J) (hJ : J S) (hW : qWH E S s H locs) (hl : lv_has ls 4 [(3, .int (nI i)), (0, .ref b), (1, .ref (eA E 0)), (2, .ref (eA E 70))])
    (kk : ∀ (S : QM) (H : Heap) (locs : List Loc), J S → qWH E S s H locs → W p l e room_1 s m #[.ref b] below meth c H locs 82 1814 Q (F0 m 1513 ls [])) : W p l e room_1 s m #[.ref b] below meth c H locs 82 1814 Q (F0 m 876 ls []) := by
  obtain ⟨d1, d2, r, P, h1, h2, c1, h3⟩ := h S hJ (xs (i + 1)) (xs (i + 2))
  refine lv_aload_n X.x X.b d_law_876 rfl (lv_at hl 2 rfl) ?_
  refine lv_aload_n X.x X.b d_law_877 rfl (lv_at hl 1 rfl) ?_
  refine lv_iload_n X.x X.b d_law_878 rfl (lv_at hl 0 rfl) ?_
  refine lv_iconst (v := nI 1) X.x X.b d_law_879 (by decide) ?_
  refine lv_iadd X.x X.b d_law_880 ?_
  rw [nI_add]
  refine va_sld X.x X.b hX hbl hbA hW.2.2 (q_in (show i + 1 < L by omega) (by omega)) d_law_881 ?_
  rw [nI_clamp (by omega)]
  refine lv_aload_n X.x X.b d_law_882 rfl (lv_at hl 1 rfl) ?_
  refine lv_iload_n X.x X.b d_law_883 rfl (lv_at hl 0 rfl) ?_
  refine lv_iconst (v := nI 2) X.x X.b d_law_884 (by decide) ?_
  refine lv_iadd X.x X.b d_law_885 ?_
  rw [nI_add]
  refine va_sld X.x X.b hX hbl hbA hW.2.2 (q_in (show i + 2 < L by omega) (by omega)) d_law_886 ?_
  rw [nI_clamp (by omega)]
  refine q_cvip X c1 hW (q_recv X hW ds_X rfl) ok_X_paceFor mw_419 ⟨by show d1 + 1 ≤ 13; omega, by show 8 + (5 + 11) + 39 * d1 ≤ 512; omega⟩ (As := [.int (xs (i + 1)), .int (xs (i + 2))]) rfl rfl (Nat.le_of_ble_eq_true rfl) (lv := [(3, .int (nI i)), (0, .ref b), (1, .ref (eA E 0)), (2, .ref (eA E 70))]) hl ⟨Nat.le_of_ble_eq_true rfl, Nat.le_of_ble_eq_true rfl⟩ d_law_887 (fun H locs u hu hW => ?_)
  obtain ⟨P', c2, h4⟩ := h3 u hu
  refine lv_aload_n X.x X.b d_law_890 rfl (lv_at hl 3 rfl) ?_
  refine lv_aload_n X.x X.b d_law_891 rfl (lv_at hl 1 rfl) ?_
  refine lv_iload_n X.x X.b d_law_892 rfl (lv_at hl 0 rfl) ?_
  refine lv_iconst (v := nI 1) X.x X.b d_law_893 (by decide) ?_
  refine lv_iadd X.x X.b d_law_894 ?_
  rw [nI_add]
  refine va_sld X.x X.b hX hbl hbA hW.2.2 (q_in (show i + 1 < L by omega) (by omega)) d_law_895 ?_
  rw [nI_clamp (by omega)]
  refine lv_aload_n X.x X.b d_law_896 rfl (lv_at hl 1 rfl) ?_
  refine lv_iload_n X.x X.b d_law_897 rfl (lv_at hl 0 rfl) ?_
  refine lv_iconst (v := nI 2) X.x X.b d_law_898 (by decide) ?_
  refine lv_iadd X.x X.b d_law_899 ?_
  rw [nI_add]
  refine va_sld X.x X.b hX hbl hbA hW.2.2 (q_in (show i + 2 < L by omega) (by omega)) d_law_900 ?_
  rw [nI_clamp (by omega)]
  refine q_cvip X c2 hW (q_recv X hW ds_R rfl) ok_R_paceFor mw_1010 ⟨by show d2 + 1 ≤ 13; omega, by show 8 + (7 + 11) + 39 * d2 ≤ 512; omega⟩ (As := [.int (xs (i + 1)), .int (xs (i + 2))]) rfl rfl (Nat.le_of_ble_eq_true rfl) (lv := [(3, .int (nI i)), (0, .ref b), (1, .ref (eA E 0)), (2, .ref (eA E 70))]) hl ⟨Nat.le_of_ble_eq_true rfl, Nat.le_of_ble_eq_true rfl⟩ d_law_901 (fun H locs v hv hW => ?_)
  refine lv_icmp_eq (tgt := 1513) X.x X.b d_law_904 (by decide) (fun _ => kk v H locs (h4 v hv) hW) (fun z => absurd rfl z)
set_option maxHeartbeats 1000000 in
theorem law_giveUp {p : Program} {l : Launch} {e : Env} {s : State} {m : MethodId} {below : List Frame} {meth : Method} {c : Code} {H : Heap} {locs : List Loc} {Q : State → Prop} {ls : Array Slot} {E : QE} {S : QM} {J : QM → Prop} {rt : Option FieldType} {b L i : Nat} {xs : Nat → Int32} (X : qX E p s m #[.ref b] meth c code 4 rt "CarelessMistLaw") (hX : va_X b L xs s s.heap) (hbl : b < s.heap.size) (hbA : ¬ qAA E s.heap.size b) (hi : i + 6 ≤ L) (hL : L ≤ 3072) (h : qH_giveUp E l J) (hJ : J S) (hW : qWH E S s H locs) (hl : lv_has ls 4 [(3, .int (nI i)), (0, .ref b), (1, .ref (eA E 0)), (2, .ref (eA E 70))])
    (kk : ∀ (S : QM) (H : Heap) (locs : List Loc), J S → qWH E S s H locs → W p l e room_1 s m #[.ref b] below meth c H locs 82 1814 Q (F0 m 1513 ls [])) : W p l e room_1 s m #[.ref b] below meth c H locs 82 1814 Q (F0 m 909 ls []) := by
  obtain ⟨d1, d2, r, P, h1, h2, c1, h3⟩ := h S hJ (xs (i + 1)) (xs (i + 2))
  refine lv_aload_n X.x X.b d_law_909 rfl (lv_at hl 2 rfl) ?_
  refine lv_aload_n X.x X.b d_law_910 rfl (lv_at hl 1 rfl) ?_
  refine lv_iload_n X.x X.b d_law_911 rfl (lv_at hl 0 rfl) ?_
  refine lv_iconst (v := nI 1) X.x X.b d_law_912 (by decide) ?_
  refine lv_iadd X.x X.b d_law_913 ?_
  rw [nI_add]
  refine va_sld X.x X.b hX hbl hbA hW.2.2 (q_in (show i + 1 < L by omega) (by omega)) d_law_914 ?_
  rw [nI_clamp (by omega)]
  refine lv_aload_n X.x X.b d_law_915 rfl (lv_at hl 1 rfl) ?_
  refine lv_iload_n X.x X.b d_law_916 rfl (lv_at hl 0 rfl) ?_
  refine lv_iconst (v := nI 2) X.x X.b d_law_917 (by decide) ?_
  refine lv_iadd X.x X.b d_law_918 ?_
  rw [nI_add]
  refine va_sld X.x X.b hX hbl hbA hW.2.2 (q_in (show i + 2 < L by omega) (by omega)) d_law_919 ?_
  rw [nI_clamp (by omega)]
  refine q_cvip X c1 hW (q_recv X hW ds_X rfl) ok_X_giveUp mw_423 ⟨by show d1 + 1 ≤ 13; omega, by show 8 + (9 + 11) + 39 * d1 ≤ 512; omega⟩ (As := [.int (xs (i + 1)), .int (xs (i + 2))]) rfl rfl (Nat.le_of_ble_eq_true rfl) (lv := [(3, .int (nI i)), (0, .ref b), (1, .ref (eA E 0)), (2, .ref (eA E 70))]) hl ⟨Nat.le_of_ble_eq_true rfl, Nat.le_of_ble_eq_true rfl⟩ d_law_920 (fun H locs u hu hW => ?_)
  obtain ⟨P', c2, h4⟩ := h3 u hu
  refine lv_aload_n X.x X.b d_law_923 rfl (lv_at hl 3 rfl) ?_
  refine lv_aload_n X.x X.b d_law_924 rfl (lv_at hl 1 rfl) ?_
  refine lv_iload_n X.x X.b d_law_925 rfl (lv_at hl 0 rfl) ?_
  refine lv_iconst (v := nI 1) X.x X.b d_law_926 (by decide) ?_
  refine lv_iadd X.x X.b d_law_927 ?_
  rw [nI_add]
  refine va_sld X.x X.b hX hbl hbA hW.2.2 (q_in (show i + 1 < L by omega) (by omega)) d_law_928 ?_
  rw [nI_clamp (by omega)]
  refine lv_aload_n X.x X.b d_law_929 rfl (lv_at hl 1 rfl) ?_
  refine lv_iload_n X.x X.b d_law_930 rfl (lv_at hl 0 rfl) ?_
  refine lv_iconst (v := nI 2) X.x X.b d_law_931 (by decide) ?_
  refine lv_iadd X.x X.b d_law_932 ?_
  rw [nI_add]
  refine va_sld X.x X.b hX hbl hbA hW.2.2 (q_in (show i + 2 < L by omega) (by omega)) d_law_933 ?_
  rw [nI_clamp (by omega)]
  refine q_cvip X c2 hW (q_recv X hW ds_R rfl) ok_R_giveUp mw_1018 ⟨by show d2 + 1 ≤ 13; omega, by show 8 + (7 + 11) + 39 * d2 ≤ 512; omega⟩ (As := [.int (xs (i + 1)), .int (xs (i + 2))]) rfl rfl (Nat.le_of_ble_eq_true rfl) (lv := [(3, .int (nI i)), (0, .ref b), (1, .ref (eA E 0)), (2, .ref (eA E 70))]) hl ⟨Nat.le_of_ble_eq_true rfl, Nat.le_of_ble_eq_true rfl⟩ d_law_934 (fun H locs v hv hW => ?_)
  refine lv_icmp_eq (tgt := 1513) X.x X.b d_law_937 (by decide) (fun _ => kk v H locs (h4 v hv) hW) (fun z => absurd rfl z)
set_option maxHeartbeats 1000000 in
theorem law_fits {p : Program} {l : Launch} {e : Env} {s : State} {m : MethodId} {below : List Frame} {meth : Method} {c : Code} {H : Heap} {locs : List Loc} {Q : State → Prop} {ls : Array Slot} {E : QE} {S : QM} {J : QM → Prop} {rt : Option FieldType} {b L i : Nat} {xs : Nat → Int32} (X : qX E p s m #[.ref b] meth c code 4 rt "CarelessMistLaw") (hX : va_X b L xs s s.heap) (hbl : b < s.heap.size) (hbA : ¬ qAA E s.heap.size b) (hi : i + 6 ≤ L) (hL : L ≤ 3072) (h : qH_fits E l J) (hJ : J S) (hW : qWH E S s H locs) (hl : lv_has ls 4 [(3, .int (nI i)), (0, .ref b), (1, .ref (eA E 0)), (2, .ref (eA E 70))])
    (kk : ∀ (S : QM) (H : Heap) (locs : List Loc), J S → qWH E S s H locs → W p l e room_1 s m #[.ref b] below meth c H locs 82 1814 Q (F0 m 1513 ls [])) : W p l e room_1 s m #[.ref b] below meth c H locs 82 1814 Q (F0 m 942 ls []) := by
  obtain ⟨d1, d2, r, P, h1, h2, c1, h3⟩ := h S hJ (xs (i + 1)) (xs (i + 2))
  refine lv_aload_n X.x X.b d_law_942 rfl (lv_at hl 2 rfl) ?_
  refine lv_aload_n X.x X.b d_law_943 rfl (lv_at hl 1 rfl) ?_
  refine lv_iload_n X.x X.b d_law_944 rfl (lv_at hl 0 rfl) ?_
  refine lv_iconst (v := nI 1) X.x X.b d_law_945 (by decide) ?_
  refine lv_iadd X.x X.b d_law_946 ?_
  rw [nI_add]
  refine va_sld X.x X.b hX hbl hbA hW.2.2 (q_in (show i + 1 < L by omega) (by omega)) d_law_947 ?_
  rw [nI_clamp (by omega)]
  refine lv_aload_n X.x X.b d_law_948 rfl (lv_at hl 1 rfl) ?_
  refine lv_iload_n X.x X.b d_law_949 rfl (lv_at hl 0 rfl) ?_
  refine lv_iconst (v := nI 2) X.x X.b d_law_950 (by decide) ?_
  refine lv_iadd X.x X.b d_law_951 ?_
  rw [nI_add]
  refine va_sld X.x X.b hX hbl hbA hW.2.2 (q_in (show i + 2 < L by omega) (by omega)) d_law_952 ?_
  rw [nI_clamp (by omega)]
  refine q_cvip X c1 hW (q_recv X hW ds_X rfl) ok_X_fits mw_433 ⟨by show d1 + 1 ≤ 13; omega, by show 8 + (6 + 11) + 39 * d1 ≤ 512; omega⟩ (As := [.int (xs (i + 1)), .int (xs (i + 2))]) rfl rfl (Nat.le_of_ble_eq_true rfl) (lv := [(3, .int (nI i)), (0, .ref b), (1, .ref (eA E 0)), (2, .ref (eA E 70))]) hl ⟨Nat.le_of_ble_eq_true rfl, Nat.le_of_ble_eq_true rfl⟩ d_law_953 (fun H locs u hu hW => ?_)
  obtain ⟨P', c2, h4⟩ := h3 u hu
  refine lv_aload_n X.x X.b d_law_956 rfl (lv_at hl 3 rfl) ?_
  refine lv_aload_n X.x X.b d_law_957 rfl (lv_at hl 1 rfl) ?_
  refine lv_iload_n X.x X.b d_law_958 rfl (lv_at hl 0 rfl) ?_
  refine lv_iconst (v := nI 1) X.x X.b d_law_959 (by decide) ?_
  refine lv_iadd X.x X.b d_law_960 ?_
  rw [nI_add]
  refine va_sld X.x X.b hX hbl hbA hW.2.2 (q_in (show i + 1 < L by omega) (by omega)) d_law_961 ?_
  rw [nI_clamp (by omega)]
  refine lv_aload_n X.x X.b d_law_962 rfl (lv_at hl 1 rfl) ?_
  refine lv_iload_n X.x X.b d_law_963 rfl (lv_at hl 0 rfl) ?_
  refine lv_iconst (v := nI 2) X.x X.b d_law_964 (by decide) ?_
  refine lv_iadd X.x X.b d_law_965 ?_
  rw [nI_add]
  refine va_sld X.x X.b hX hbl hbA hW.2.2 (q_in (show i + 2 < L by omega) (by omega)) d_law_966 ?_
  rw [nI_clamp (by omega)]
  refine q_cvip X c2 hW (q_recv X hW ds_R rfl) ok_R_fits mw_1025 ⟨by show d2 + 1 ≤ 13; omega, by show 8 + (4 + 11) + 39 * d2 ≤ 512; omega⟩ (As := [.int (xs (i + 1)), .int (xs (i + 2))]) rfl rfl (Nat.le_of_ble_eq_true rfl) (lv := [(3, .int (nI i)), (0, .ref b), (1, .ref (eA E 0)), (2, .ref (eA E 70))]) hl ⟨Nat.le_of_ble_eq_true rfl, Nat.le_of_ble_eq_true rfl⟩ d_law_967 (fun H locs v hv hW => ?_)
  refine lv_icmp_eq (tgt := 1513) X.x X.b d_law_970 (by decide) (fun _ => kk v H locs (h4 v hv) hW) (fun z => absurd rfl z)
set_option maxHeartbeats 1000000 in
theorem law_kinds {p : Program} {l : Launch} {e : Env} {s : State} {m : MethodId} {below : List Frame} {meth : Method} {c : Code} {H : Heap} {locs : List Loc} {Q : State → Prop} {ls : Array Slot} {E : QE} {S : QM} {J : QM → Prop} {rt : Option FieldType} {b L i : Nat} {xs : Nat → Int32} (X : qX E p s m #[.ref b] meth c code 4 rt "CarelessMistLaw") (hX : va_X b L xs s s.heap) (hbl : b < s.heap.size) (hbA : ¬ qAA E s.heap.size b) (hi : i + 6 ≤ L) (hL : L ≤ 3072) (h : qH_kinds E l J) (hJ : J S) (hW : qWH E S s H locs) (hl : lv_has ls 4 [(3, .int (nI i)), (0, .ref b), (1, .ref (eA E 0)), (2, .ref (eA E 70))])
    (kk : ∀ (S : QM) (H : Heap) (locs : List Loc), J S → qWH E S s H locs → W p l e room_1 s m #[.ref b] below meth c H locs 82 1814 Q (F0 m 1513 ls [])) : W p l e room_1 s m #[.ref b] below meth c H locs 82 1814 Q (F0 m 975 ls []) := by
  obtain ⟨d1, d2, r, P, h1, h2, c1, h3⟩ := h S hJ (xs (i + 1)) (xs (i + 2))
  refine lv_aload_n X.x X.b d_law_975 rfl (lv_at hl 2 rfl) ?_
  refine lv_aload_n X.x X.b d_law_976 rfl (lv_at hl 1 rfl) ?_
  refine lv_iload_n X.x X.b d_law_977 rfl (lv_at hl 0 rfl) ?_
  refine lv_iconst (v := nI 1) X.x X.b d_law_978 (by decide) ?_
  refine lv_iadd X.x X.b d_law_979 ?_
  rw [nI_add]
  refine va_sld X.x X.b hX hbl hbA hW.2.2 (q_in (show i + 1 < L by omega) (by omega)) d_law_980 ?_
  rw [nI_clamp (by omega)]
  refine lv_aload_n X.x X.b d_law_981 rfl (lv_at hl 1 rfl) ?_
  refine lv_iload_n X.x X.b d_law_982 rfl (lv_at hl 0 rfl) ?_
  refine lv_iconst (v := nI 2) X.x X.b d_law_983 (by decide) ?_
  refine lv_iadd X.x X.b d_law_984 ?_
  rw [nI_add]
  refine va_sld X.x X.b hX hbl hbA hW.2.2 (q_in (show i + 2 < L by omega) (by omega)) d_law_985 ?_
  rw [nI_clamp (by omega)]
  refine q_cvip X c1 hW (q_recv X hW ds_X rfl) ok_X_kinds mw_446 ⟨by show d1 + 1 ≤ 13; omega, by show 8 + (6 + 11) + 39 * d1 ≤ 512; omega⟩ (As := [.int (xs (i + 1)), .int (xs (i + 2))]) rfl rfl (Nat.le_of_ble_eq_true rfl) (lv := [(3, .int (nI i)), (0, .ref b), (1, .ref (eA E 0)), (2, .ref (eA E 70))]) hl ⟨Nat.le_of_ble_eq_true rfl, Nat.le_of_ble_eq_true rfl⟩ d_law_986 (fun H locs u hu hW => ?_)
  obtain ⟨P', c2, h4⟩ := h3 u hu
  refine lv_aload_n X.x X.b d_law_989 rfl (lv_at hl 3 rfl) ?_
  refine lv_aload_n X.x X.b d_law_990 rfl (lv_at hl 1 rfl) ?_
  refine lv_iload_n X.x X.b d_law_991 rfl (lv_at hl 0 rfl) ?_
  refine lv_iconst (v := nI 1) X.x X.b d_law_992 (by decide) ?_
  refine lv_iadd X.x X.b d_law_993 ?_
  rw [nI_add]
  refine va_sld X.x X.b hX hbl hbA hW.2.2 (q_in (show i + 1 < L by omega) (by omega)) d_law_994 ?_
  rw [nI_clamp (by omega)]
  refine lv_aload_n X.x X.b d_law_995 rfl (lv_at hl 1 rfl) ?_
  refine lv_iload_n X.x X.b d_law_996 rfl (lv_at hl 0 rfl) ?_
  refine lv_iconst (v := nI 2) X.x X.b d_law_997 (by decide) ?_
  refine lv_iadd X.x X.b d_law_998 ?_
  rw [nI_add]
  refine va_sld X.x X.b hX hbl hbA hW.2.2 (q_in (show i + 2 < L by omega) (by omega)) d_law_999 ?_
  rw [nI_clamp (by omega)]
  refine q_cvip X c2 hW (q_recv X hW ds_R rfl) ok_R_kinds mw_1045 ⟨by show d2 + 1 ≤ 13; omega, by show 8 + (4 + 11) + 39 * d2 ≤ 512; omega⟩ (As := [.int (xs (i + 1)), .int (xs (i + 2))]) rfl rfl (Nat.le_of_ble_eq_true rfl) (lv := [(3, .int (nI i)), (0, .ref b), (1, .ref (eA E 0)), (2, .ref (eA E 70))]) hl ⟨Nat.le_of_ble_eq_true rfl, Nat.le_of_ble_eq_true rfl⟩ d_law_1000 (fun H locs v hv hW => ?_)
  refine lv_icmp_eq (tgt := 1513) X.x X.b d_law_1003 (by decide) (fun _ => kk v H locs (h4 v hv) hW) (fun z => absurd rfl z)
set_option maxHeartbeats 1000000 in
theorem law_morning {p : Program} {l : Launch} {e : Env} {s : State} {m : MethodId} {below : List Frame} {meth : Method} {c : Code} {H : Heap} {locs : List Loc} {Q : State → Prop} {ls : Array Slot} {E : QE} {S : QM} {J : QM → Prop} {rt : Option FieldType} {b L i : Nat} {xs : Nat → Int32} (X : qX E p s m #[.ref b] meth c code 4 rt "CarelessMistLaw") (hX : va_X b L xs s s.heap) (hbl : b < s.heap.size) (hbA : ¬ qAA E s.heap.size b) (hi : i + 6 ≤ L) (hL : L ≤ 3072) (h : qH_morning E l J) (hJ : J S) (hW : qWH E S s H locs) (hl : lv_has ls 4 [(3, .int (nI i)), (0, .ref b), (1, .ref (eA E 0)), (2, .ref (eA E 70))])
    (kk : ∀ (S : QM) (H : Heap) (locs : List Loc), J S → qWH E S s H locs → W p l e room_1 s m #[.ref b] below meth c H locs 82 1814 Q (F0 m 1513 ls [])) : W p l e room_1 s m #[.ref b] below meth c H locs 82 1814 Q (F0 m 1008 ls []) := by
  obtain ⟨d1, d2, r, P, h1, h2, c1, h3⟩ := h S hJ (xs (i + 1))
  refine lv_aload_n X.x X.b d_law_1008 rfl (lv_at hl 2 rfl) ?_
  refine lv_aload_n X.x X.b d_law_1009 rfl (lv_at hl 1 rfl) ?_
  refine lv_iload_n X.x X.b d_law_1010 rfl (lv_at hl 0 rfl) ?_
  refine lv_iconst (v := nI 1) X.x X.b d_law_1011 (by decide) ?_
  refine lv_iadd X.x X.b d_law_1012 ?_
  rw [nI_add]
  refine va_sld X.x X.b hX hbl hbA hW.2.2 (q_in (show i + 1 < L by omega) (by omega)) d_law_1013 ?_
  rw [nI_clamp (by omega)]
  refine q_cvip X c1 hW (q_recv X hW ds_X rfl) ok_X_morning mw_450 ⟨by show d1 + 1 ≤ 13; omega, by show 8 + (5 + 11) + 39 * d1 ≤ 512; omega⟩ (As := [.int (xs (i + 1))]) rfl rfl (Nat.le_of_ble_eq_true rfl) (lv := [(3, .int (nI i)), (0, .ref b), (1, .ref (eA E 0)), (2, .ref (eA E 70))]) hl ⟨Nat.le_of_ble_eq_true rfl, Nat.le_of_ble_eq_true rfl⟩ d_law_1014 (fun H locs u hu hW => ?_)
  obtain ⟨P', c2, h4⟩ := h3 u hu
  refine lv_aload_n X.x X.b d_law_1017 rfl (lv_at hl 3 rfl) ?_
  refine lv_aload_n X.x X.b d_law_1018 rfl (lv_at hl 1 rfl) ?_
  refine lv_iload_n X.x X.b d_law_1019 rfl (lv_at hl 0 rfl) ?_
  refine lv_iconst (v := nI 1) X.x X.b d_law_1020 (by decide) ?_
  refine lv_iadd X.x X.b d_law_1021 ?_
  rw [nI_add]
  refine va_sld X.x X.b hX hbl hbA hW.2.2 (q_in (show i + 1 < L by omega) (by omega)) d_law_1022 ?_
  rw [nI_clamp (by omega)]
  refine q_cvip X c2 hW (q_recv X hW ds_R rfl) ok_R_morning mw_1049 ⟨by show d2 + 1 ≤ 13; omega, by show 8 + (5 + 11) + 39 * d2 ≤ 512; omega⟩ (As := [.int (xs (i + 1))]) rfl rfl (Nat.le_of_ble_eq_true rfl) (lv := [(3, .int (nI i)), (0, .ref b), (1, .ref (eA E 0)), (2, .ref (eA E 70))]) hl ⟨Nat.le_of_ble_eq_true rfl, Nat.le_of_ble_eq_true rfl⟩ d_law_1023 (fun H locs v hv hW => ?_)
  refine lv_icmp_eq (tgt := 1513) X.x X.b d_law_1026 (by decide) (fun _ => kk v H locs (h4 v hv) hW) (fun z => absurd rfl z)
set_option maxHeartbeats 1000000 in
theorem law_odds {p : Program} {l : Launch} {e : Env} {s : State} {m : MethodId} {below : List Frame} {meth : Method} {c : Code} {H : Heap} {locs : List Loc} {Q : State → Prop} {ls : Array Slot} {E : QE} {S : QM} {J : QM → Prop} {rt : Option FieldType} {b L i : Nat} {xs : Nat → Int32} (X : qX E p s m #[.ref b] meth c code 4 rt "CarelessMistLaw") (hX : va_X b L xs s s.heap) (hbl : b < s.heap.size) (hbA : ¬ qAA E s.heap.size b) (hi : i + 6 ≤ L) (hL : L ≤ 3072) (h : qH_odds E l J) (hJ : J S) (hW : qWH E S s H locs) (hl : lv_has ls 4 [(3, .int (nI i)), (0, .ref b), (1, .ref (eA E 0)), (2, .ref (eA E 70))])
    (kk : ∀ (S : QM) (H : Heap) (locs : List Loc), J S → qWH E S s H locs → W p l e room_1 s m #[.ref b] below meth c H locs 82 1814 Q (F0 m 1513 ls [])) : W p l e room_1 s m #[.ref b] below meth c H locs 82 1814 Q (F0 m 1031 ls []) := by
  obtain ⟨d1, d2, r, P, h1, h2, c1, h3⟩ := h S hJ (xs (i + 1)) (xs (i + 2)) (xs (i + 3)) (xs (i + 4))
  refine lv_aload_n X.x X.b d_law_1031 rfl (lv_at hl 2 rfl) ?_
  refine lv_aload_n X.x X.b d_law_1032 rfl (lv_at hl 1 rfl) ?_
  refine lv_iload_n X.x X.b d_law_1033 rfl (lv_at hl 0 rfl) ?_
  refine lv_iconst (v := nI 1) X.x X.b d_law_1034 (by decide) ?_
  refine lv_iadd X.x X.b d_law_1035 ?_
  rw [nI_add]
  refine va_sld X.x X.b hX hbl hbA hW.2.2 (q_in (show i + 1 < L by omega) (by omega)) d_law_1036 ?_
  rw [nI_clamp (by omega)]
  refine lv_aload_n X.x X.b d_law_1037 rfl (lv_at hl 1 rfl) ?_
  refine lv_iload_n X.x X.b d_law_1038 rfl (lv_at hl 0 rfl) ?_
  refine lv_iconst (v := nI 2) X.x X.b d_law_1039 (by decide) ?_
  refine lv_iadd X.x X.b d_law_1040 ?_
  rw [nI_add]
  refine va_sld X.x X.b hX hbl hbA hW.2.2 (q_in (show i + 2 < L by omega) (by omega)) d_law_1041 ?_
  rw [nI_clamp (by omega)]
  refine lv_aload_n X.x X.b d_law_1042 rfl (lv_at hl 1 rfl) ?_
  refine lv_iload_n X.x X.b d_law_1043 rfl (lv_at hl 0 rfl) ?_
  refine lv_iconst (v := nI 3) X.x X.b d_law_1044 (by decide) ?_
  refine lv_iadd X.x X.b d_law_1045 ?_
  rw [nI_add]
  refine va_sld X.x X.b hX hbl hbA hW.2.2 (q_in (show i + 3 < L by omega) (by omega)) d_law_1046 ?_
  rw [nI_clamp (by omega)]
  refine lv_aload_n X.x X.b d_law_1047 rfl (lv_at hl 1 rfl) ?_
  refine lv_iload_n X.x X.b d_law_1048 rfl (lv_at hl 0 rfl) ?_
  refine lv_iconst (v := nI 4) X.x X.b d_law_1049 (by decide) ?_
  refine lv_iadd X.x X.b d_law_1050 ?_
  rw [nI_add]
  refine va_sld X.x X.b hX hbl hbA hW.2.2 (q_in (show i + 4 < L by omega) (by omega)) d_law_1051 ?_
  rw [nI_clamp (by omega)]
  refine q_cvlp X c1 hW (q_recv X hW ds_X rfl) ok_X_odds mw_459 ⟨by show d1 + 1 ≤ 13; omega, by show 8 + (7 + 11) + 39 * d1 ≤ 512; omega⟩ (As := [.int (xs (i + 1)), .int (xs (i + 2)), .int (xs (i + 3)), .int (xs (i + 4))]) rfl rfl (Nat.le_of_ble_eq_true rfl) (lv := [(3, .int (nI i)), (0, .ref b), (1, .ref (eA E 0)), (2, .ref (eA E 70))]) hl ⟨Nat.le_of_ble_eq_true rfl, Nat.le_of_ble_eq_true rfl⟩ d_law_1052 (fun H locs u hu hW => ?_)
  obtain ⟨P', c2, h4⟩ := h3 u hu
  refine lv_aload_n X.x X.b d_law_1055 rfl (lv_at hl 3 rfl) ?_
  refine lv_aload_n X.x X.b d_law_1056 rfl (lv_at hl 1 rfl) ?_
  refine lv_iload_n X.x X.b d_law_1057 rfl (lv_at hl 0 rfl) ?_
  refine lv_iconst (v := nI 1) X.x X.b d_law_1058 (by decide) ?_
  refine lv_iadd X.x X.b d_law_1059 ?_
  rw [nI_add]
  refine va_sld X.x X.b hX hbl hbA hW.2.2 (q_in (show i + 1 < L by omega) (by omega)) d_law_1060 ?_
  rw [nI_clamp (by omega)]
  refine lv_aload_n X.x X.b d_law_1061 rfl (lv_at hl 1 rfl) ?_
  refine lv_iload_n X.x X.b d_law_1062 rfl (lv_at hl 0 rfl) ?_
  refine lv_iconst (v := nI 2) X.x X.b d_law_1063 (by decide) ?_
  refine lv_iadd X.x X.b d_law_1064 ?_
  rw [nI_add]
  refine va_sld X.x X.b hX hbl hbA hW.2.2 (q_in (show i + 2 < L by omega) (by omega)) d_law_1065 ?_
  rw [nI_clamp (by omega)]
  refine lv_aload_n X.x X.b d_law_1066 rfl (lv_at hl 1 rfl) ?_
  refine lv_iload_n X.x X.b d_law_1067 rfl (lv_at hl 0 rfl) ?_
  refine lv_iconst (v := nI 3) X.x X.b d_law_1068 (by decide) ?_
  refine lv_iadd X.x X.b d_law_1069 ?_
  rw [nI_add]
  refine va_sld X.x X.b hX hbl hbA hW.2.2 (q_in (show i + 3 < L by omega) (by omega)) d_law_1070 ?_
  rw [nI_clamp (by omega)]
  refine lv_aload_n X.x X.b d_law_1071 rfl (lv_at hl 1 rfl) ?_
  refine lv_iload_n X.x X.b d_law_1072 rfl (lv_at hl 0 rfl) ?_
  refine lv_iconst (v := nI 4) X.x X.b d_law_1073 (by decide) ?_
  refine lv_iadd X.x X.b d_law_1074 ?_
  rw [nI_add]
  refine va_sld X.x X.b hX hbl hbA hW.2.2 (q_in (show i + 4 < L by omega) (by omega)) d_law_1075 ?_
  rw [nI_clamp (by omega)]
  refine q_cvlp X c2 hW (q_recv X hW ds_R rfl) ok_R_odds mw_1058 ⟨by show d2 + 1 ≤ 13; omega, by show 8 + (13 + 11) + 39 * d2 ≤ 512; omega⟩ (As := [.int (xs (i + 1)), .int (xs (i + 2)), .int (xs (i + 3)), .int (xs (i + 4))]) rfl rfl (Nat.le_of_ble_eq_true rfl) (lv := [(3, .int (nI i)), (0, .ref b), (1, .ref (eA E 0)), (2, .ref (eA E 70))]) hl ⟨Nat.le_of_ble_eq_true rfl, Nat.le_of_ble_eq_true rfl⟩ d_law_1076 (fun H locs v hv hW => ?_)
  refine W.lcmp X.x X.b d_law_1079 ?_
  refine lv_if_eq (tgt := 1513) X.x X.b d_law_1080 (by decide) (fun _ => kk v H locs (h4 v hv) hW) (fun z => absurd (lcmp_self r) z)
set_option maxHeartbeats 1000000 in
theorem law_seed {p : Program} {l : Launch} {e : Env} {s : State} {m : MethodId} {below : List Frame} {meth : Method} {c : Code} {H : Heap} {locs : List Loc} {Q : State → Prop} {ls : Array Slot} {E : QE} {S : QM} {J : QM → Prop} {rt : Option FieldType} {b L i : Nat} {xs : Nat → Int32} (X : qX E p s m #[.ref b] meth c code 4 rt "CarelessMistLaw") (hX : va_X b L xs s s.heap) (hbl : b < s.heap.size) (hbA : ¬ qAA E s.heap.size b) (hi : i + 6 ≤ L) (hL : L ≤ 3072) (h : qH_seed E l J) (hJ : J S) (hW : qWH E S s H locs) (hl : lv_has ls 4 [(3, .int (nI i)), (0, .ref b), (1, .ref (eA E 0)), (2, .ref (eA E 70))])
    (kk : ∀ (S : QM) (H : Heap) (locs : List Loc), J S → qWH E S s H locs → W p l e room_1 s m #[.ref b] below meth c H locs 82 1814 Q (F0 m 1513 ls [])) : W p l e room_1 s m #[.ref b] below meth c H locs 82 1814 Q (F0 m 1085 ls []) := by
  obtain ⟨d1, d2, r, P, h1, h2, c1, h3⟩ := h S hJ (xs (i + 1))
  refine lv_aload_n X.x X.b d_law_1085 rfl (lv_at hl 2 rfl) ?_
  refine lv_aload_n X.x X.b d_law_1086 rfl (lv_at hl 1 rfl) ?_
  refine lv_iload_n X.x X.b d_law_1087 rfl (lv_at hl 0 rfl) ?_
  refine lv_iconst (v := nI 1) X.x X.b d_law_1088 (by decide) ?_
  refine lv_iadd X.x X.b d_law_1089 ?_
  rw [nI_add]
  refine va_sld X.x X.b hX hbl hbA hW.2.2 (q_in (show i + 1 < L by omega) (by omega)) d_law_1090 ?_
  rw [nI_clamp (by omega)]
  refine q_cvip X c1 hW (q_recv X hW ds_X rfl) ok_X_seed mw_466 ⟨by show d1 + 1 ≤ 13; omega, by show 8 + (3 + 11) + 39 * d1 ≤ 512; omega⟩ (As := [.int (xs (i + 1))]) rfl rfl (Nat.le_of_ble_eq_true rfl) (lv := [(3, .int (nI i)), (0, .ref b), (1, .ref (eA E 0)), (2, .ref (eA E 70))]) hl ⟨Nat.le_of_ble_eq_true rfl, Nat.le_of_ble_eq_true rfl⟩ d_law_1091 (fun H locs u hu hW => ?_)
  obtain ⟨P', c2, h4⟩ := h3 u hu
  refine lv_aload_n X.x X.b d_law_1094 rfl (lv_at hl 3 rfl) ?_
  refine lv_aload_n X.x X.b d_law_1095 rfl (lv_at hl 1 rfl) ?_
  refine lv_iload_n X.x X.b d_law_1096 rfl (lv_at hl 0 rfl) ?_
  refine lv_iconst (v := nI 1) X.x X.b d_law_1097 (by decide) ?_
  refine lv_iadd X.x X.b d_law_1098 ?_
  rw [nI_add]
  refine va_sld X.x X.b hX hbl hbA hW.2.2 (q_in (show i + 1 < L by omega) (by omega)) d_law_1099 ?_
  rw [nI_clamp (by omega)]
  refine q_cvip X c2 hW (q_recv X hW ds_R rfl) ok_R_seed mw_1062 ⟨by show d2 + 1 ≤ 13; omega, by show 8 + (2 + 11) + 39 * d2 ≤ 512; omega⟩ (As := [.int (xs (i + 1))]) rfl rfl (Nat.le_of_ble_eq_true rfl) (lv := [(3, .int (nI i)), (0, .ref b), (1, .ref (eA E 0)), (2, .ref (eA E 70))]) hl ⟨Nat.le_of_ble_eq_true rfl, Nat.le_of_ble_eq_true rfl⟩ d_law_1100 (fun H locs v hv hW => ?_)
  refine lv_icmp_eq (tgt := 1513) X.x X.b d_law_1103 (by decide) (fun _ => kk v H locs (h4 v hv) hW) (fun z => absurd rfl z)
set_option maxHeartbeats 1000000 in
theorem law_feed {p : Program} {l : Launch} {e : Env} {s : State} {m : MethodId} {below : List Frame} {meth : Method} {c : Code} {H : Heap} {locs : List Loc} {Q : State → Prop} {ls : Array Slot} {E : QE} {S : QM} {J : QM → Prop} {rt : Option FieldType} {b L i : Nat} {xs : Nat → Int32} (X : qX E p s m #[.ref b] meth c code 4 rt "CarelessMistLaw") (hX : va_X b L xs s s.heap) (hbl : b < s.heap.size) (hbA : ¬ qAA E s.heap.size b) (hi : i + 6 ≤ L) (hL : L ≤ 3072) (h : qH_feed E l J) (hJ : J S) (hW : qWH E S s H locs) (hl : lv_has ls 4 [(3, .int (nI i)), (0, .ref b), (1, .ref (eA E 0)), (2, .ref (eA E 70))])
    (kk : ∀ (S : QM) (H : Heap) (locs : List Loc), J S → qWH E S s H locs → W p l e room_1 s m #[.ref b] below meth c H locs 82 1814 Q (F0 m 1513 ls [])) : W p l e room_1 s m #[.ref b] below meth c H locs 82 1814 Q (F0 m 1108 ls []) := by
  obtain ⟨d1, d2, r, P, h1, h2, c1, h3⟩ := h S hJ (xs (i + 1)) (xs (i + 2))
  refine lv_aload_n X.x X.b d_law_1108 rfl (lv_at hl 2 rfl) ?_
  refine lv_aload_n X.x X.b d_law_1109 rfl (lv_at hl 1 rfl) ?_
  refine lv_iload_n X.x X.b d_law_1110 rfl (lv_at hl 0 rfl) ?_
  refine lv_iconst (v := nI 1) X.x X.b d_law_1111 (by decide) ?_
  refine lv_iadd X.x X.b d_law_1112 ?_
  rw [nI_add]
  refine va_sld X.x X.b hX hbl hbA hW.2.2 (q_in (show i + 1 < L by omega) (by omega)) d_law_1113 ?_
  rw [nI_clamp (by omega)]
  refine lv_aload_n X.x X.b d_law_1114 rfl (lv_at hl 1 rfl) ?_
  refine lv_iload_n X.x X.b d_law_1115 rfl (lv_at hl 0 rfl) ?_
  refine lv_iconst (v := nI 2) X.x X.b d_law_1116 (by decide) ?_
  refine lv_iadd X.x X.b d_law_1117 ?_
  rw [nI_add]
  refine va_sld X.x X.b hX hbl hbA hW.2.2 (q_in (show i + 2 < L by omega) (by omega)) d_law_1118 ?_
  rw [nI_clamp (by omega)]
  refine q_cvip X c1 hW (q_recv X hW ds_X rfl) ok_X_feed mw_470 ⟨by show d1 + 1 ≤ 13; omega, by show 8 + (3 + 11) + 39 * d1 ≤ 512; omega⟩ (As := [.int (xs (i + 1)), .int (xs (i + 2))]) rfl rfl (Nat.le_of_ble_eq_true rfl) (lv := [(3, .int (nI i)), (0, .ref b), (1, .ref (eA E 0)), (2, .ref (eA E 70))]) hl ⟨Nat.le_of_ble_eq_true rfl, Nat.le_of_ble_eq_true rfl⟩ d_law_1119 (fun H locs u hu hW => ?_)
  obtain ⟨P', c2, h4⟩ := h3 u hu
  refine lv_aload_n X.x X.b d_law_1122 rfl (lv_at hl 3 rfl) ?_
  refine lv_aload_n X.x X.b d_law_1123 rfl (lv_at hl 1 rfl) ?_
  refine lv_iload_n X.x X.b d_law_1124 rfl (lv_at hl 0 rfl) ?_
  refine lv_iconst (v := nI 1) X.x X.b d_law_1125 (by decide) ?_
  refine lv_iadd X.x X.b d_law_1126 ?_
  rw [nI_add]
  refine va_sld X.x X.b hX hbl hbA hW.2.2 (q_in (show i + 1 < L by omega) (by omega)) d_law_1127 ?_
  rw [nI_clamp (by omega)]
  refine lv_aload_n X.x X.b d_law_1128 rfl (lv_at hl 1 rfl) ?_
  refine lv_iload_n X.x X.b d_law_1129 rfl (lv_at hl 0 rfl) ?_
  refine lv_iconst (v := nI 2) X.x X.b d_law_1130 (by decide) ?_
  refine lv_iadd X.x X.b d_law_1131 ?_
  rw [nI_add]
  refine va_sld X.x X.b hX hbl hbA hW.2.2 (q_in (show i + 2 < L by omega) (by omega)) d_law_1132 ?_
  rw [nI_clamp (by omega)]
  refine q_cvip X c2 hW (q_recv X hW ds_R rfl) ok_R_feed mw_1066 ⟨by show d2 + 1 ≤ 13; omega, by show 8 + (4 + 11) + 39 * d2 ≤ 512; omega⟩ (As := [.int (xs (i + 1)), .int (xs (i + 2))]) rfl rfl (Nat.le_of_ble_eq_true rfl) (lv := [(3, .int (nI i)), (0, .ref b), (1, .ref (eA E 0)), (2, .ref (eA E 70))]) hl ⟨Nat.le_of_ble_eq_true rfl, Nat.le_of_ble_eq_true rfl⟩ d_law_1133 (fun H locs v hv hW => ?_)
  refine lv_icmp_eq (tgt := 1513) X.x X.b d_law_1136 (by decide) (fun _ => kk v H locs (h4 v hv) hW) (fun z => absurd rfl z)
set_option maxHeartbeats 1000000 in
theorem law_wipe {p : Program} {l : Launch} {e : Env} {s : State} {m : MethodId} {below : List Frame} {meth : Method} {c : Code} {H : Heap} {locs : List Loc} {Q : State → Prop} {ls : Array Slot} {E : QE} {S : QM} {J : QM → Prop} {rt : Option FieldType} {b L i : Nat} {xs : Nat → Int32} (X : qX E p s m #[.ref b] meth c code 4 rt "CarelessMistLaw") (hX : va_X b L xs s s.heap) (hbl : b < s.heap.size) (hbA : ¬ qAA E s.heap.size b) (hi : i + 6 ≤ L) (hL : L ≤ 3072) (h : qH_wipe E l J) (hJ : J S) (hW : qWH E S s H locs) (hl : lv_has ls 4 [(3, .int (nI i)), (0, .ref b), (1, .ref (eA E 0)), (2, .ref (eA E 70))])
    (kk : ∀ (S : QM) (H : Heap) (locs : List Loc), J S → qWH E S s H locs → W p l e room_1 s m #[.ref b] below meth c H locs 82 1814 Q (F0 m 1513 ls [])) : W p l e room_1 s m #[.ref b] below meth c H locs 82 1814 Q (F0 m 1141 ls []) := by
  obtain ⟨d1, d2, r, P, h1, h2, c1, h3⟩ := h S hJ
  refine lv_aload_n X.x X.b d_law_1141 rfl (lv_at hl 2 rfl) ?_
  refine q_cvip X c1 hW (q_recv X hW ds_X rfl) ok_X_wipe mw_478 ⟨by show d1 + 1 ≤ 13; omega, by show 8 + (2 + 11) + 39 * d1 ≤ 512; omega⟩ (As := []) rfl rfl (Nat.le_of_ble_eq_true rfl) (lv := [(3, .int (nI i)), (0, .ref b), (1, .ref (eA E 0)), (2, .ref (eA E 70))]) hl ⟨Nat.le_of_ble_eq_true rfl, Nat.le_of_ble_eq_true rfl⟩ d_law_1142 (fun H locs u hu hW => ?_)
  obtain ⟨P', c2, h4⟩ := h3 u hu
  refine lv_aload_n X.x X.b d_law_1145 rfl (lv_at hl 3 rfl) ?_
  refine q_cvip X c2 hW (q_recv X hW ds_R rfl) ok_R_wipe mw_1070 ⟨by show d2 + 1 ≤ 13; omega, by show 8 + (2 + 11) + 39 * d2 ≤ 512; omega⟩ (As := []) rfl rfl (Nat.le_of_ble_eq_true rfl) (lv := [(3, .int (nI i)), (0, .ref b), (1, .ref (eA E 0)), (2, .ref (eA E 70))]) hl ⟨Nat.le_of_ble_eq_true rfl, Nat.le_of_ble_eq_true rfl⟩ d_law_1146 (fun H locs v hv hW => ?_)
  refine lv_icmp_eq (tgt := 1513) X.x X.b d_law_1149 (by decide) (fun _ => kk v H locs (h4 v hv) hW) (fun z => absurd rfl z)
set_option maxHeartbeats 1000000 in
theorem law_text {p : Program} {l : Launch} {e : Env} {s : State} {m : MethodId} {below : List Frame} {meth : Method} {c : Code} {H : Heap} {locs : List Loc} {Q : State → Prop} {ls : Array Slot} {E : QE} {S : QM} {J : QM → Prop} {rt : Option FieldType} {b L i : Nat} {xs : Nat → Int32} (X : qX E p s m #[.ref b] meth c code 4 rt "CarelessMistLaw") (hX : va_X b L xs s s.heap) (hbl : b < s.heap.size) (hbA : ¬ qAA E s.heap.size b) (hi : i + 6 ≤ L) (hL : L ≤ 3072) (h : qH_text E l J) (hJ : J S) (hW : qWH E S s H locs) (hl : lv_has ls 4 [(3, .int (nI i)), (0, .ref b), (1, .ref (eA E 0)), (2, .ref (eA E 70))])
    (kk : ∀ (S : QM) (H : Heap) (locs : List Loc), J S → qWH E S s H locs → W p l e room_1 s m #[.ref b] below meth c H locs 82 1814 Q (F0 m 1513 ls [])) : W p l e room_1 s m #[.ref b] below meth c H locs 82 1814 Q (F0 m 1154 ls []) := by
  obtain ⟨d1, d2, r, P, h1, h2, c1, h3⟩ := h S hJ
  refine lv_aload_n X.x X.b d_law_1154 rfl (lv_at hl 2 rfl) ?_
  refine q_cvip X c1 hW (q_recv X hW ds_X rfl) ok_X_text mw_482 ⟨by show d1 + 1 ≤ 13; omega, by show 8 + (2 + 11) + 39 * d1 ≤ 512; omega⟩ (As := []) rfl rfl (Nat.le_of_ble_eq_true rfl) (lv := [(3, .int (nI i)), (0, .ref b), (1, .ref (eA E 0)), (2, .ref (eA E 70))]) hl ⟨Nat.le_of_ble_eq_true rfl, Nat.le_of_ble_eq_true rfl⟩ d_law_1155 (fun H locs u hu hW => ?_)
  obtain ⟨P', c2, h4⟩ := h3 u hu
  refine lv_aload_n X.x X.b d_law_1158 rfl (lv_at hl 3 rfl) ?_
  refine q_cvip X c2 hW (q_recv X hW ds_R rfl) ok_R_text mw_1074 ⟨by show d2 + 1 ≤ 13; omega, by show 8 + (2 + 11) + 39 * d2 ≤ 512; omega⟩ (As := []) rfl rfl (Nat.le_of_ble_eq_true rfl) (lv := [(3, .int (nI i)), (0, .ref b), (1, .ref (eA E 0)), (2, .ref (eA E 70))]) hl ⟨Nat.le_of_ble_eq_true rfl, Nat.le_of_ble_eq_true rfl⟩ d_law_1159 (fun H locs v hv hW => ?_)
  refine lv_icmp_eq (tgt := 1513) X.x X.b d_law_1162 (by decide) (fun _ => kk v H locs (h4 v hv) hW) (fun z => absurd rfl z)
set_option maxHeartbeats 1000000 in
theorem law_hold {p : Program} {l : Launch} {e : Env} {s : State} {m : MethodId} {below : List Frame} {meth : Method} {c : Code} {H : Heap} {locs : List Loc} {Q : State → Prop} {ls : Array Slot} {E : QE} {S : QM} {J : QM → Prop} {rt : Option FieldType} {b L i : Nat} {xs : Nat → Int32} (X : qX E p s m #[.ref b] meth c code 4 rt "CarelessMistLaw") (hX : va_X b L xs s s.heap) (hbl : b < s.heap.size) (hbA : ¬ qAA E s.heap.size b) (hi : i + 6 ≤ L) (hL : L ≤ 3072) (h : qH_hold E l J) (hJ : J S) (hW : qWH E S s H locs) (hl : lv_has ls 4 [(3, .int (nI i)), (0, .ref b), (1, .ref (eA E 0)), (2, .ref (eA E 70))])
    (kk : ∀ (S : QM) (H : Heap) (locs : List Loc), J S → qWH E S s H locs → W p l e room_1 s m #[.ref b] below meth c H locs 82 1814 Q (F0 m 1513 ls [])) : W p l e room_1 s m #[.ref b] below meth c H locs 82 1814 Q (F0 m 1167 ls []) := by
  obtain ⟨d1, d2, r, P, h1, h2, c1, h3⟩ := h S hJ (xs (i + 1)) (xs (i + 2))
  refine lv_aload_n X.x X.b d_law_1167 rfl (lv_at hl 2 rfl) ?_
  refine lv_aload_n X.x X.b d_law_1168 rfl (lv_at hl 1 rfl) ?_
  refine lv_iload_n X.x X.b d_law_1169 rfl (lv_at hl 0 rfl) ?_
  refine lv_iconst (v := nI 1) X.x X.b d_law_1170 (by decide) ?_
  refine lv_iadd X.x X.b d_law_1171 ?_
  rw [nI_add]
  refine va_sld X.x X.b hX hbl hbA hW.2.2 (q_in (show i + 1 < L by omega) (by omega)) d_law_1172 ?_
  rw [nI_clamp (by omega)]
  refine lv_aload_n X.x X.b d_law_1173 rfl (lv_at hl 1 rfl) ?_
  refine lv_iload_n X.x X.b d_law_1174 rfl (lv_at hl 0 rfl) ?_
  refine lv_iconst (v := nI 2) X.x X.b d_law_1175 (by decide) ?_
  refine lv_iadd X.x X.b d_law_1176 ?_
  rw [nI_add]
  refine va_sld X.x X.b hX hbl hbA hW.2.2 (q_in (show i + 2 < L by omega) (by omega)) d_law_1177 ?_
  rw [nI_clamp (by omega)]
  refine q_cvip X c1 hW (q_recv X hW ds_X rfl) ok_X_hold mw_598 ⟨by show d1 + 1 ≤ 13; omega, by show 8 + (3 + 11) + 39 * d1 ≤ 512; omega⟩ (As := [.int (xs (i + 1)), .int (xs (i + 2))]) rfl rfl (Nat.le_of_ble_eq_true rfl) (lv := [(3, .int (nI i)), (0, .ref b), (1, .ref (eA E 0)), (2, .ref (eA E 70))]) hl ⟨Nat.le_of_ble_eq_true rfl, Nat.le_of_ble_eq_true rfl⟩ d_law_1178 (fun H locs u hu hW => ?_)
  obtain ⟨P', c2, h4⟩ := h3 u hu
  refine lv_aload_n X.x X.b d_law_1181 rfl (lv_at hl 3 rfl) ?_
  refine lv_aload_n X.x X.b d_law_1182 rfl (lv_at hl 1 rfl) ?_
  refine lv_iload_n X.x X.b d_law_1183 rfl (lv_at hl 0 rfl) ?_
  refine lv_iconst (v := nI 1) X.x X.b d_law_1184 (by decide) ?_
  refine lv_iadd X.x X.b d_law_1185 ?_
  rw [nI_add]
  refine va_sld X.x X.b hX hbl hbA hW.2.2 (q_in (show i + 1 < L by omega) (by omega)) d_law_1186 ?_
  rw [nI_clamp (by omega)]
  refine lv_aload_n X.x X.b d_law_1187 rfl (lv_at hl 1 rfl) ?_
  refine lv_iload_n X.x X.b d_law_1188 rfl (lv_at hl 0 rfl) ?_
  refine lv_iconst (v := nI 2) X.x X.b d_law_1189 (by decide) ?_
  refine lv_iadd X.x X.b d_law_1190 ?_
  rw [nI_add]
  refine va_sld X.x X.b hX hbl hbA hW.2.2 (q_in (show i + 2 < L by omega) (by omega)) d_law_1191 ?_
  rw [nI_clamp (by omega)]
  refine q_cvip X c2 hW (q_recv X hW ds_R rfl) ok_R_hold mw_1128 ⟨by show d2 + 1 ≤ 13; omega, by show 8 + (3 + 11) + 39 * d2 ≤ 512; omega⟩ (As := [.int (xs (i + 1)), .int (xs (i + 2))]) rfl rfl (Nat.le_of_ble_eq_true rfl) (lv := [(3, .int (nI i)), (0, .ref b), (1, .ref (eA E 0)), (2, .ref (eA E 70))]) hl ⟨Nat.le_of_ble_eq_true rfl, Nat.le_of_ble_eq_true rfl⟩ d_law_1192 (fun H locs v hv hW => ?_)
  refine lv_icmp_eq (tgt := 1513) X.x X.b d_law_1195 (by decide) (fun _ => kk v H locs (h4 v hv) hW) (fun z => absurd rfl z)
set_option maxHeartbeats 1000000 in
theorem law_as {p : Program} {l : Launch} {e : Env} {s : State} {m : MethodId} {below : List Frame} {meth : Method} {c : Code} {H : Heap} {locs : List Loc} {Q : State → Prop} {ls : Array Slot} {E : QE} {S : QM} {J : QM → Prop} {rt : Option FieldType} {b L i : Nat} {xs : Nat → Int32} (X : qX E p s m #[.ref b] meth c code 4 rt "CarelessMistLaw") (hX : va_X b L xs s s.heap) (hbl : b < s.heap.size) (hbA : ¬ qAA E s.heap.size b) (hi : i + 6 ≤ L) (hL : L ≤ 3072) (h : qH_as E l J) (hJ : J S) (hW : qWH E S s H locs) (hl : lv_has ls 4 [(3, .int (nI i)), (0, .ref b), (1, .ref (eA E 0)), (2, .ref (eA E 70))])
    (kk : ∀ (S : QM) (H : Heap) (locs : List Loc), J S → qWH E S s H locs → W p l e room_1 s m #[.ref b] below meth c H locs 82 1814 Q (F0 m 1513 ls [])) : W p l e room_1 s m #[.ref b] below meth c H locs 82 1814 Q (F0 m 1200 ls []) := by
  obtain ⟨d1, d2, r, P, h1, h2, c1, h3⟩ := h S hJ (xs (i + 1)) (xs (i + 2))
  refine lv_aload_n X.x X.b d_law_1200 rfl (lv_at hl 2 rfl) ?_
  refine lv_aload_n X.x X.b d_law_1201 rfl (lv_at hl 1 rfl) ?_
  refine lv_iload_n X.x X.b d_law_1202 rfl (lv_at hl 0 rfl) ?_
  refine lv_iconst (v := nI 1) X.x X.b d_law_1203 (by decide) ?_
  refine lv_iadd X.x X.b d_law_1204 ?_
  rw [nI_add]
  refine va_sld X.x X.b hX hbl hbA hW.2.2 (q_in (show i + 1 < L by omega) (by omega)) d_law_1205 ?_
  rw [nI_clamp (by omega)]
  refine lv_aload_n X.x X.b d_law_1206 rfl (lv_at hl 1 rfl) ?_
  refine lv_iload_n X.x X.b d_law_1207 rfl (lv_at hl 0 rfl) ?_
  refine lv_iconst (v := nI 2) X.x X.b d_law_1208 (by decide) ?_
  refine lv_iadd X.x X.b d_law_1209 ?_
  rw [nI_add]
  refine va_sld X.x X.b hX hbl hbA hW.2.2 (q_in (show i + 2 < L by omega) (by omega)) d_law_1210 ?_
  rw [nI_clamp (by omega)]
  refine q_cvip X c1 hW (q_recv X hW ds_X rfl) ok_X_as mw_602 ⟨by show d1 + 1 ≤ 13; omega, by show 8 + (4 + 11) + 39 * d1 ≤ 512; omega⟩ (As := [.int (xs (i + 1)), .int (xs (i + 2))]) rfl rfl (Nat.le_of_ble_eq_true rfl) (lv := [(3, .int (nI i)), (0, .ref b), (1, .ref (eA E 0)), (2, .ref (eA E 70))]) hl ⟨Nat.le_of_ble_eq_true rfl, Nat.le_of_ble_eq_true rfl⟩ d_law_1211 (fun H locs u hu hW => ?_)
  obtain ⟨P', c2, h4⟩ := h3 u hu
  refine lv_aload_n X.x X.b d_law_1214 rfl (lv_at hl 3 rfl) ?_
  refine lv_aload_n X.x X.b d_law_1215 rfl (lv_at hl 1 rfl) ?_
  refine lv_iload_n X.x X.b d_law_1216 rfl (lv_at hl 0 rfl) ?_
  refine lv_iconst (v := nI 1) X.x X.b d_law_1217 (by decide) ?_
  refine lv_iadd X.x X.b d_law_1218 ?_
  rw [nI_add]
  refine va_sld X.x X.b hX hbl hbA hW.2.2 (q_in (show i + 1 < L by omega) (by omega)) d_law_1219 ?_
  rw [nI_clamp (by omega)]
  refine lv_aload_n X.x X.b d_law_1220 rfl (lv_at hl 1 rfl) ?_
  refine lv_iload_n X.x X.b d_law_1221 rfl (lv_at hl 0 rfl) ?_
  refine lv_iconst (v := nI 2) X.x X.b d_law_1222 (by decide) ?_
  refine lv_iadd X.x X.b d_law_1223 ?_
  rw [nI_add]
  refine va_sld X.x X.b hX hbl hbA hW.2.2 (q_in (show i + 2 < L by omega) (by omega)) d_law_1224 ?_
  rw [nI_clamp (by omega)]
  refine q_cvip X c2 hW (q_recv X hW ds_R rfl) ok_R_as mw_1135 ⟨by show d2 + 1 ≤ 13; omega, by show 8 + (4 + 11) + 39 * d2 ≤ 512; omega⟩ (As := [.int (xs (i + 1)), .int (xs (i + 2))]) rfl rfl (Nat.le_of_ble_eq_true rfl) (lv := [(3, .int (nI i)), (0, .ref b), (1, .ref (eA E 0)), (2, .ref (eA E 70))]) hl ⟨Nat.le_of_ble_eq_true rfl, Nat.le_of_ble_eq_true rfl⟩ d_law_1225 (fun H locs v hv hW => ?_)
  refine lv_icmp_eq (tgt := 1513) X.x X.b d_law_1228 (by decide) (fun _ => kk v H locs (h4 v hv) hW) (fun z => absurd rfl z)
set_option maxHeartbeats 1000000 in
theorem law_sheet {p : Program} {l : Launch} {e : Env} {s : State} {m : MethodId} {below : List Frame} {meth : Method} {c : Code} {H : Heap} {locs : List Loc} {Q : State → Prop} {ls : Array Slot} {E : QE} {S : QM} {J : QM → Prop} {rt : Option FieldType} {b L i : Nat} {xs : Nat → Int32} (X : qX E p s m #[.ref b] meth c code 4 rt "CarelessMistLaw") (hX : va_X b L xs s s.heap) (hbl : b < s.heap.size) (hbA : ¬ qAA E s.heap.size b) (hi : i + 6 ≤ L) (hL : L ≤ 3072) (h : qH_sheet E l J) (hJ : J S) (hW : qWH E S s H locs) (hl : lv_has ls 4 [(3, .int (nI i)), (0, .ref b), (1, .ref (eA E 0)), (2, .ref (eA E 70))])
    (kk : ∀ (S : QM) (H : Heap) (locs : List Loc), J S → qWH E S s H locs → W p l e room_1 s m #[.ref b] below meth c H locs 82 1814 Q (F0 m 1513 ls [])) : W p l e room_1 s m #[.ref b] below meth c H locs 82 1814 Q (F0 m 1233 ls []) := by
  obtain ⟨d1, d2, r, P, h1, h2, c1, h3⟩ := h S hJ (xs (i + 1)) (xs (i + 2)) (xs (i + 3))
  refine lv_aload_n X.x X.b d_law_1233 rfl (lv_at hl 2 rfl) ?_
  refine lv_aload_n X.x X.b d_law_1234 rfl (lv_at hl 1 rfl) ?_
  refine lv_iload_n X.x X.b d_law_1235 rfl (lv_at hl 0 rfl) ?_
  refine lv_iconst (v := nI 1) X.x X.b d_law_1236 (by decide) ?_
  refine lv_iadd X.x X.b d_law_1237 ?_
  rw [nI_add]
  refine va_sld X.x X.b hX hbl hbA hW.2.2 (q_in (show i + 1 < L by omega) (by omega)) d_law_1238 ?_
  rw [nI_clamp (by omega)]
  refine lv_aload_n X.x X.b d_law_1239 rfl (lv_at hl 1 rfl) ?_
  refine lv_iload_n X.x X.b d_law_1240 rfl (lv_at hl 0 rfl) ?_
  refine lv_iconst (v := nI 2) X.x X.b d_law_1241 (by decide) ?_
  refine lv_iadd X.x X.b d_law_1242 ?_
  rw [nI_add]
  refine va_sld X.x X.b hX hbl hbA hW.2.2 (q_in (show i + 2 < L by omega) (by omega)) d_law_1243 ?_
  rw [nI_clamp (by omega)]
  refine lv_aload_n X.x X.b d_law_1244 rfl (lv_at hl 1 rfl) ?_
  refine lv_iload_n X.x X.b d_law_1245 rfl (lv_at hl 0 rfl) ?_
  refine lv_iconst (v := nI 3) X.x X.b d_law_1246 (by decide) ?_
  refine lv_iadd X.x X.b d_law_1247 ?_
  rw [nI_add]
  refine va_sld X.x X.b hX hbl hbA hW.2.2 (q_in (show i + 3 < L by omega) (by omega)) d_law_1248 ?_
  rw [nI_clamp (by omega)]
  refine q_cvip X c1 hW (q_recv X hW ds_X rfl) ok_X_sheet mw_612 ⟨by show d1 + 1 ≤ 13; omega, by show 8 + (5 + 11) + 39 * d1 ≤ 512; omega⟩ (As := [.int (xs (i + 1)), .int (xs (i + 2)), .int (xs (i + 3))]) rfl rfl (Nat.le_of_ble_eq_true rfl) (lv := [(3, .int (nI i)), (0, .ref b), (1, .ref (eA E 0)), (2, .ref (eA E 70))]) hl ⟨Nat.le_of_ble_eq_true rfl, Nat.le_of_ble_eq_true rfl⟩ d_law_1249 (fun H locs u hu hW => ?_)
  obtain ⟨P', c2, h4⟩ := h3 u hu
  refine lv_aload_n X.x X.b d_law_1252 rfl (lv_at hl 3 rfl) ?_
  refine lv_aload_n X.x X.b d_law_1253 rfl (lv_at hl 1 rfl) ?_
  refine lv_iload_n X.x X.b d_law_1254 rfl (lv_at hl 0 rfl) ?_
  refine lv_iconst (v := nI 1) X.x X.b d_law_1255 (by decide) ?_
  refine lv_iadd X.x X.b d_law_1256 ?_
  rw [nI_add]
  refine va_sld X.x X.b hX hbl hbA hW.2.2 (q_in (show i + 1 < L by omega) (by omega)) d_law_1257 ?_
  rw [nI_clamp (by omega)]
  refine lv_aload_n X.x X.b d_law_1258 rfl (lv_at hl 1 rfl) ?_
  refine lv_iload_n X.x X.b d_law_1259 rfl (lv_at hl 0 rfl) ?_
  refine lv_iconst (v := nI 2) X.x X.b d_law_1260 (by decide) ?_
  refine lv_iadd X.x X.b d_law_1261 ?_
  rw [nI_add]
  refine va_sld X.x X.b hX hbl hbA hW.2.2 (q_in (show i + 2 < L by omega) (by omega)) d_law_1262 ?_
  rw [nI_clamp (by omega)]
  refine lv_aload_n X.x X.b d_law_1263 rfl (lv_at hl 1 rfl) ?_
  refine lv_iload_n X.x X.b d_law_1264 rfl (lv_at hl 0 rfl) ?_
  refine lv_iconst (v := nI 3) X.x X.b d_law_1265 (by decide) ?_
  refine lv_iadd X.x X.b d_law_1266 ?_
  rw [nI_add]
  refine va_sld X.x X.b hX hbl hbA hW.2.2 (q_in (show i + 3 < L by omega) (by omega)) d_law_1267 ?_
  rw [nI_clamp (by omega)]
  refine q_cvip X c2 hW (q_recv X hW ds_R rfl) ok_R_sheet mw_1146 ⟨by show d2 + 1 ≤ 13; omega, by show 8 + (5 + 11) + 39 * d2 ≤ 512; omega⟩ (As := [.int (xs (i + 1)), .int (xs (i + 2)), .int (xs (i + 3))]) rfl rfl (Nat.le_of_ble_eq_true rfl) (lv := [(3, .int (nI i)), (0, .ref b), (1, .ref (eA E 0)), (2, .ref (eA E 70))]) hl ⟨Nat.le_of_ble_eq_true rfl, Nat.le_of_ble_eq_true rfl⟩ d_law_1268 (fun H locs v hv hW => ?_)
  refine lv_icmp_eq (tgt := 1513) X.x X.b d_law_1271 (by decide) (fun _ => kk v H locs (h4 v hv) hW) (fun z => absurd rfl z)
set_option maxHeartbeats 1000000 in
theorem law_write {p : Program} {l : Launch} {e : Env} {s : State} {m : MethodId} {below : List Frame} {meth : Method} {c : Code} {H : Heap} {locs : List Loc} {Q : State → Prop} {ls : Array Slot} {E : QE} {S : QM} {J : QM → Prop} {rt : Option FieldType} {b L i : Nat} {xs : Nat → Int32} (X : qX E p s m #[.ref b] meth c code 4 rt "CarelessMistLaw") (hX : va_X b L xs s s.heap) (hbl : b < s.heap.size) (hbA : ¬ qAA E s.heap.size b) (hi : i + 6 ≤ L) (hL : L ≤ 3072) (h : qH_write E l J) (hJ : J S) (hW : qWH E S s H locs) (hl : lv_has ls 4 [(3, .int (nI i)), (0, .ref b), (1, .ref (eA E 0)), (2, .ref (eA E 70))])
    (kk : ∀ (S : QM) (H : Heap) (locs : List Loc), J S → qWH E S s H locs → W p l e room_1 s m #[.ref b] below meth c H locs 82 1814 Q (F0 m 1513 ls [])) : W p l e room_1 s m #[.ref b] below meth c H locs 82 1814 Q (F0 m 1276 ls []) := by
  obtain ⟨d1, d2, r, P, h1, h2, c1, h3⟩ := h S hJ (xs (i + 1)) (xs (i + 2)) (xs (i + 3))
  refine lv_aload_n X.x X.b d_law_1276 rfl (lv_at hl 2 rfl) ?_
  refine lv_aload_n X.x X.b d_law_1277 rfl (lv_at hl 1 rfl) ?_
  refine lv_iload_n X.x X.b d_law_1278 rfl (lv_at hl 0 rfl) ?_
  refine lv_iconst (v := nI 1) X.x X.b d_law_1279 (by decide) ?_
  refine lv_iadd X.x X.b d_law_1280 ?_
  rw [nI_add]
  refine va_sld X.x X.b hX hbl hbA hW.2.2 (q_in (show i + 1 < L by omega) (by omega)) d_law_1281 ?_
  rw [nI_clamp (by omega)]
  refine lv_aload_n X.x X.b d_law_1282 rfl (lv_at hl 1 rfl) ?_
  refine lv_iload_n X.x X.b d_law_1283 rfl (lv_at hl 0 rfl) ?_
  refine lv_iconst (v := nI 2) X.x X.b d_law_1284 (by decide) ?_
  refine lv_iadd X.x X.b d_law_1285 ?_
  rw [nI_add]
  refine va_sld X.x X.b hX hbl hbA hW.2.2 (q_in (show i + 2 < L by omega) (by omega)) d_law_1286 ?_
  rw [nI_clamp (by omega)]
  refine lv_aload_n X.x X.b d_law_1287 rfl (lv_at hl 1 rfl) ?_
  refine lv_iload_n X.x X.b d_law_1288 rfl (lv_at hl 0 rfl) ?_
  refine lv_iconst (v := nI 3) X.x X.b d_law_1289 (by decide) ?_
  refine lv_iadd X.x X.b d_law_1290 ?_
  rw [nI_add]
  refine va_sld X.x X.b hX hbl hbA hW.2.2 (q_in (show i + 3 < L by omega) (by omega)) d_law_1291 ?_
  rw [nI_clamp (by omega)]
  refine q_cvip X c1 hW (q_recv X hW ds_X rfl) ok_X_write mw_622 ⟨by show d1 + 1 ≤ 13; omega, by show 8 + (5 + 11) + 39 * d1 ≤ 512; omega⟩ (As := [.int (xs (i + 1)), .int (xs (i + 2)), .int (xs (i + 3))]) rfl rfl (Nat.le_of_ble_eq_true rfl) (lv := [(3, .int (nI i)), (0, .ref b), (1, .ref (eA E 0)), (2, .ref (eA E 70))]) hl ⟨Nat.le_of_ble_eq_true rfl, Nat.le_of_ble_eq_true rfl⟩ d_law_1292 (fun H locs u hu hW => ?_)
  obtain ⟨P', c2, h4⟩ := h3 u hu
  refine lv_aload_n X.x X.b d_law_1295 rfl (lv_at hl 3 rfl) ?_
  refine lv_aload_n X.x X.b d_law_1296 rfl (lv_at hl 1 rfl) ?_
  refine lv_iload_n X.x X.b d_law_1297 rfl (lv_at hl 0 rfl) ?_
  refine lv_iconst (v := nI 1) X.x X.b d_law_1298 (by decide) ?_
  refine lv_iadd X.x X.b d_law_1299 ?_
  rw [nI_add]
  refine va_sld X.x X.b hX hbl hbA hW.2.2 (q_in (show i + 1 < L by omega) (by omega)) d_law_1300 ?_
  rw [nI_clamp (by omega)]
  refine lv_aload_n X.x X.b d_law_1301 rfl (lv_at hl 1 rfl) ?_
  refine lv_iload_n X.x X.b d_law_1302 rfl (lv_at hl 0 rfl) ?_
  refine lv_iconst (v := nI 2) X.x X.b d_law_1303 (by decide) ?_
  refine lv_iadd X.x X.b d_law_1304 ?_
  rw [nI_add]
  refine va_sld X.x X.b hX hbl hbA hW.2.2 (q_in (show i + 2 < L by omega) (by omega)) d_law_1305 ?_
  rw [nI_clamp (by omega)]
  refine lv_aload_n X.x X.b d_law_1306 rfl (lv_at hl 1 rfl) ?_
  refine lv_iload_n X.x X.b d_law_1307 rfl (lv_at hl 0 rfl) ?_
  refine lv_iconst (v := nI 3) X.x X.b d_law_1308 (by decide) ?_
  refine lv_iadd X.x X.b d_law_1309 ?_
  rw [nI_add]
  refine va_sld X.x X.b hX hbl hbA hW.2.2 (q_in (show i + 3 < L by omega) (by omega)) d_law_1310 ?_
  rw [nI_clamp (by omega)]
  refine q_cvip X c2 hW (q_recv X hW ds_R rfl) ok_R_write mw_1151 ⟨by show d2 + 1 ≤ 13; omega, by show 8 + (4 + 11) + 39 * d2 ≤ 512; omega⟩ (As := [.int (xs (i + 1)), .int (xs (i + 2)), .int (xs (i + 3))]) rfl rfl (Nat.le_of_ble_eq_true rfl) (lv := [(3, .int (nI i)), (0, .ref b), (1, .ref (eA E 0)), (2, .ref (eA E 70))]) hl ⟨Nat.le_of_ble_eq_true rfl, Nat.le_of_ble_eq_true rfl⟩ d_law_1311 (fun H locs v hv hW => ?_)
  refine lv_icmp_eq (tgt := 1513) X.x X.b d_law_1314 (by decide) (fun _ => kk v H locs (h4 v hv) hW) (fun z => absurd rfl z)
set_option maxHeartbeats 1000000 in
theorem law_copy {p : Program} {l : Launch} {e : Env} {s : State} {m : MethodId} {below : List Frame} {meth : Method} {c : Code} {H : Heap} {locs : List Loc} {Q : State → Prop} {ls : Array Slot} {E : QE} {S : QM} {J : QM → Prop} {rt : Option FieldType} {b L i : Nat} {xs : Nat → Int32} (X : qX E p s m #[.ref b] meth c code 4 rt "CarelessMistLaw") (hX : va_X b L xs s s.heap) (hbl : b < s.heap.size) (hbA : ¬ qAA E s.heap.size b) (hi : i + 6 ≤ L) (hL : L ≤ 3072) (h : qH_copy E l J) (hJ : J S) (hW : qWH E S s H locs) (hl : lv_has ls 4 [(3, .int (nI i)), (0, .ref b), (1, .ref (eA E 0)), (2, .ref (eA E 70))])
    (kk : ∀ (S : QM) (H : Heap) (locs : List Loc), J S → qWH E S s H locs → W p l e room_1 s m #[.ref b] below meth c H locs 82 1814 Q (F0 m 1513 ls [])) : W p l e room_1 s m #[.ref b] below meth c H locs 82 1814 Q (F0 m 1319 ls []) := by
  obtain ⟨d1, d2, r, P, h1, h2, c1, h3⟩ := h S hJ (xs (i + 1)) (xs (i + 2)) (xs (i + 3)) (xs (i + 4)) (xs (i + 5))
  refine lv_aload_n X.x X.b d_law_1319 rfl (lv_at hl 2 rfl) ?_
  refine lv_aload_n X.x X.b d_law_1320 rfl (lv_at hl 1 rfl) ?_
  refine lv_iload_n X.x X.b d_law_1321 rfl (lv_at hl 0 rfl) ?_
  refine lv_iconst (v := nI 1) X.x X.b d_law_1322 (by decide) ?_
  refine lv_iadd X.x X.b d_law_1323 ?_
  rw [nI_add]
  refine va_sld X.x X.b hX hbl hbA hW.2.2 (q_in (show i + 1 < L by omega) (by omega)) d_law_1324 ?_
  rw [nI_clamp (by omega)]
  refine lv_aload_n X.x X.b d_law_1325 rfl (lv_at hl 1 rfl) ?_
  refine lv_iload_n X.x X.b d_law_1326 rfl (lv_at hl 0 rfl) ?_
  refine lv_iconst (v := nI 2) X.x X.b d_law_1327 (by decide) ?_
  refine lv_iadd X.x X.b d_law_1328 ?_
  rw [nI_add]
  refine va_sld X.x X.b hX hbl hbA hW.2.2 (q_in (show i + 2 < L by omega) (by omega)) d_law_1329 ?_
  rw [nI_clamp (by omega)]
  refine lv_aload_n X.x X.b d_law_1330 rfl (lv_at hl 1 rfl) ?_
  refine lv_iload_n X.x X.b d_law_1331 rfl (lv_at hl 0 rfl) ?_
  refine lv_iconst (v := nI 3) X.x X.b d_law_1332 (by decide) ?_
  refine lv_iadd X.x X.b d_law_1333 ?_
  rw [nI_add]
  refine va_sld X.x X.b hX hbl hbA hW.2.2 (q_in (show i + 3 < L by omega) (by omega)) d_law_1334 ?_
  rw [nI_clamp (by omega)]
  refine lv_aload_n X.x X.b d_law_1335 rfl (lv_at hl 1 rfl) ?_
  refine lv_iload_n X.x X.b d_law_1336 rfl (lv_at hl 0 rfl) ?_
  refine lv_iconst (v := nI 4) X.x X.b d_law_1337 (by decide) ?_
  refine lv_iadd X.x X.b d_law_1338 ?_
  rw [nI_add]
  refine va_sld X.x X.b hX hbl hbA hW.2.2 (q_in (show i + 4 < L by omega) (by omega)) d_law_1339 ?_
  rw [nI_clamp (by omega)]
  refine lv_aload_n X.x X.b d_law_1340 rfl (lv_at hl 1 rfl) ?_
  refine lv_iload_n X.x X.b d_law_1341 rfl (lv_at hl 0 rfl) ?_
  refine lv_iconst (v := nI 5) X.x X.b d_law_1342 (by decide) ?_
  refine lv_iadd X.x X.b d_law_1343 ?_
  rw [nI_add]
  refine va_sld X.x X.b hX hbl hbA hW.2.2 (q_in (show i + 5 < L by omega) (by omega)) d_law_1344 ?_
  rw [nI_clamp (by omega)]
  refine q_cvip X c1 hW (q_recv X hW ds_X rfl) ok_X_copy mw_630 ⟨by show d1 + 1 ≤ 13; omega, by show 8 + (6 + 11) + 39 * d1 ≤ 512; omega⟩ (As := [.int (xs (i + 1)), .int (xs (i + 2)), .int (xs (i + 3)), .int (xs (i + 4)), .int (xs (i + 5))]) rfl rfl (Nat.le_of_ble_eq_true rfl) (lv := [(3, .int (nI i)), (0, .ref b), (1, .ref (eA E 0)), (2, .ref (eA E 70))]) hl ⟨Nat.le_of_ble_eq_true rfl, Nat.le_of_ble_eq_true rfl⟩ d_law_1345 (fun H locs u hu hW => ?_)
  obtain ⟨P', c2, h4⟩ := h3 u hu
  refine lv_aload_n X.x X.b d_law_1348 rfl (lv_at hl 3 rfl) ?_
  refine lv_aload_n X.x X.b d_law_1349 rfl (lv_at hl 1 rfl) ?_
  refine lv_iload_n X.x X.b d_law_1350 rfl (lv_at hl 0 rfl) ?_
  refine lv_iconst (v := nI 1) X.x X.b d_law_1351 (by decide) ?_
  refine lv_iadd X.x X.b d_law_1352 ?_
  rw [nI_add]
  refine va_sld X.x X.b hX hbl hbA hW.2.2 (q_in (show i + 1 < L by omega) (by omega)) d_law_1353 ?_
  rw [nI_clamp (by omega)]
  refine lv_aload_n X.x X.b d_law_1354 rfl (lv_at hl 1 rfl) ?_
  refine lv_iload_n X.x X.b d_law_1355 rfl (lv_at hl 0 rfl) ?_
  refine lv_iconst (v := nI 2) X.x X.b d_law_1356 (by decide) ?_
  refine lv_iadd X.x X.b d_law_1357 ?_
  rw [nI_add]
  refine va_sld X.x X.b hX hbl hbA hW.2.2 (q_in (show i + 2 < L by omega) (by omega)) d_law_1358 ?_
  rw [nI_clamp (by omega)]
  refine lv_aload_n X.x X.b d_law_1359 rfl (lv_at hl 1 rfl) ?_
  refine lv_iload_n X.x X.b d_law_1360 rfl (lv_at hl 0 rfl) ?_
  refine lv_iconst (v := nI 3) X.x X.b d_law_1361 (by decide) ?_
  refine lv_iadd X.x X.b d_law_1362 ?_
  rw [nI_add]
  refine va_sld X.x X.b hX hbl hbA hW.2.2 (q_in (show i + 3 < L by omega) (by omega)) d_law_1363 ?_
  rw [nI_clamp (by omega)]
  refine lv_aload_n X.x X.b d_law_1364 rfl (lv_at hl 1 rfl) ?_
  refine lv_iload_n X.x X.b d_law_1365 rfl (lv_at hl 0 rfl) ?_
  refine lv_iconst (v := nI 4) X.x X.b d_law_1366 (by decide) ?_
  refine lv_iadd X.x X.b d_law_1367 ?_
  rw [nI_add]
  refine va_sld X.x X.b hX hbl hbA hW.2.2 (q_in (show i + 4 < L by omega) (by omega)) d_law_1368 ?_
  rw [nI_clamp (by omega)]
  refine lv_aload_n X.x X.b d_law_1369 rfl (lv_at hl 1 rfl) ?_
  refine lv_iload_n X.x X.b d_law_1370 rfl (lv_at hl 0 rfl) ?_
  refine lv_iconst (v := nI 5) X.x X.b d_law_1371 (by decide) ?_
  refine lv_iadd X.x X.b d_law_1372 ?_
  rw [nI_add]
  refine va_sld X.x X.b hX hbl hbA hW.2.2 (q_in (show i + 5 < L by omega) (by omega)) d_law_1373 ?_
  rw [nI_clamp (by omega)]
  refine q_cvip X c2 hW (q_recv X hW ds_R rfl) ok_R_copy mw_1158 ⟨by show d2 + 1 ≤ 13; omega, by show 8 + (7 + 11) + 39 * d2 ≤ 512; omega⟩ (As := [.int (xs (i + 1)), .int (xs (i + 2)), .int (xs (i + 3)), .int (xs (i + 4)), .int (xs (i + 5))]) rfl rfl (Nat.le_of_ble_eq_true rfl) (lv := [(3, .int (nI i)), (0, .ref b), (1, .ref (eA E 0)), (2, .ref (eA E 70))]) hl ⟨Nat.le_of_ble_eq_true rfl, Nat.le_of_ble_eq_true rfl⟩ d_law_1374 (fun H locs v hv hW => ?_)
  refine lv_icmp_eq (tgt := 1513) X.x X.b d_law_1377 (by decide) (fun _ => kk v H locs (h4 v hv) hW) (fun z => absurd rfl z)
set_option maxHeartbeats 1000000 in
theorem law_load {p : Program} {l : Launch} {e : Env} {s : State} {m : MethodId} {below : List Frame} {meth : Method} {c : Code} {H : Heap} {locs : List Loc} {Q : State → Prop} {ls : Array Slot} {E : QE} {S : QM} {J : QM → Prop} {rt : Option FieldType} {b L i : Nat} {xs : Nat → Int32} (X : qX E p s m #[.ref b] meth c code 4 rt "CarelessMistLaw") (hX : va_X b L xs s s.heap) (hbl : b < s.heap.size) (hbA : ¬ qAA E s.heap.size b) (hi : i + 6 ≤ L) (hL : L ≤ 3072) (h : qH_load E l J) (hJ : J S) (hW : qWH E S s H locs) (hl : lv_has ls 4 [(3, .int (nI i)), (0, .ref b), (1, .ref (eA E 0)), (2, .ref (eA E 70))])
    (kk : ∀ (S : QM) (H : Heap) (locs : List Loc), J S → qWH E S s H locs → W p l e room_1 s m #[.ref b] below meth c H locs 82 1814 Q (F0 m 1513 ls [])) : W p l e room_1 s m #[.ref b] below meth c H locs 82 1814 Q (F0 m 1382 ls []) := by
  obtain ⟨d1, d2, r, P, h1, h2, c1, h3⟩ := h S hJ (xs (i + 1))
  refine lv_aload_n X.x X.b d_law_1382 rfl (lv_at hl 2 rfl) ?_
  refine lv_aload_n X.x X.b d_law_1383 rfl (lv_at hl 1 rfl) ?_
  refine lv_iload_n X.x X.b d_law_1384 rfl (lv_at hl 0 rfl) ?_
  refine lv_iconst (v := nI 1) X.x X.b d_law_1385 (by decide) ?_
  refine lv_iadd X.x X.b d_law_1386 ?_
  rw [nI_add]
  refine va_sld X.x X.b hX hbl hbA hW.2.2 (q_in (show i + 1 < L by omega) (by omega)) d_law_1387 ?_
  rw [nI_clamp (by omega)]
  refine q_cvip X c1 hW (q_recv X hW ds_X rfl) ok_X_load mw_639 ⟨by show d1 + 1 ≤ 13; omega, by show 8 + (5 + 11) + 39 * d1 ≤ 512; omega⟩ (As := [.int (xs (i + 1))]) rfl rfl (Nat.le_of_ble_eq_true rfl) (lv := [(3, .int (nI i)), (0, .ref b), (1, .ref (eA E 0)), (2, .ref (eA E 70))]) hl ⟨Nat.le_of_ble_eq_true rfl, Nat.le_of_ble_eq_true rfl⟩ d_law_1388 (fun H locs u hu hW => ?_)
  obtain ⟨P', c2, h4⟩ := h3 u hu
  refine lv_aload_n X.x X.b d_law_1391 rfl (lv_at hl 3 rfl) ?_
  refine lv_aload_n X.x X.b d_law_1392 rfl (lv_at hl 1 rfl) ?_
  refine lv_iload_n X.x X.b d_law_1393 rfl (lv_at hl 0 rfl) ?_
  refine lv_iconst (v := nI 1) X.x X.b d_law_1394 (by decide) ?_
  refine lv_iadd X.x X.b d_law_1395 ?_
  rw [nI_add]
  refine va_sld X.x X.b hX hbl hbA hW.2.2 (q_in (show i + 1 < L by omega) (by omega)) d_law_1396 ?_
  rw [nI_clamp (by omega)]
  refine q_cvip X c2 hW (q_recv X hW ds_R rfl) ok_R_load mw_1162 ⟨by show d2 + 1 ≤ 13; omega, by show 8 + (3 + 11) + 39 * d2 ≤ 512; omega⟩ (As := [.int (xs (i + 1))]) rfl rfl (Nat.le_of_ble_eq_true rfl) (lv := [(3, .int (nI i)), (0, .ref b), (1, .ref (eA E 0)), (2, .ref (eA E 70))]) hl ⟨Nat.le_of_ble_eq_true rfl, Nat.le_of_ble_eq_true rfl⟩ d_law_1397 (fun H locs v hv hW => ?_)
  refine lv_icmp_eq (tgt := 1513) X.x X.b d_law_1400 (by decide) (fun _ => kk v H locs (h4 v hv) hW) (fun z => absurd rfl z)
set_option maxHeartbeats 1000000 in
theorem law_judge {p : Program} {l : Launch} {e : Env} {s : State} {m : MethodId} {below : List Frame} {meth : Method} {c : Code} {H : Heap} {locs : List Loc} {Q : State → Prop} {ls : Array Slot} {E : QE} {S : QM} {J : QM → Prop} {rt : Option FieldType} {b L i : Nat} {xs : Nat → Int32} (X : qX E p s m #[.ref b] meth c code 4 rt "CarelessMistLaw") (hX : va_X b L xs s s.heap) (hbl : b < s.heap.size) (hbA : ¬ qAA E s.heap.size b) (hi : i + 6 ≤ L) (hL : L ≤ 3072) (h : qH_judge E l J) (hJ : J S) (hW : qWH E S s H locs) (hl : lv_has ls 4 [(3, .int (nI i)), (0, .ref b), (1, .ref (eA E 0)), (2, .ref (eA E 70))])
    (kk : ∀ (S : QM) (H : Heap) (locs : List Loc), J S → qWH E S s H locs → W p l e room_1 s m #[.ref b] below meth c H locs 82 1814 Q (F0 m 1513 ls [])) : W p l e room_1 s m #[.ref b] below meth c H locs 82 1814 Q (F0 m 1405 ls []) := by
  obtain ⟨d1, d2, r, P, h1, h2, c1, h3⟩ := h S hJ (xs (i + 1))
  refine lv_aload_n X.x X.b d_law_1405 rfl (lv_at hl 2 rfl) ?_
  refine lv_aload_n X.x X.b d_law_1406 rfl (lv_at hl 1 rfl) ?_
  refine lv_iload_n X.x X.b d_law_1407 rfl (lv_at hl 0 rfl) ?_
  refine lv_iconst (v := nI 1) X.x X.b d_law_1408 (by decide) ?_
  refine lv_iadd X.x X.b d_law_1409 ?_
  rw [nI_add]
  refine va_sld X.x X.b hX hbl hbA hW.2.2 (q_in (show i + 1 < L by omega) (by omega)) d_law_1410 ?_
  rw [nI_clamp (by omega)]
  refine q_cvip X c1 hW (q_recv X hW ds_X rfl) ok_X_judge mw_643 ⟨by show d1 + 1 ≤ 13; omega, by show 8 + (5 + 11) + 39 * d1 ≤ 512; omega⟩ (As := [.int (xs (i + 1))]) rfl rfl (Nat.le_of_ble_eq_true rfl) (lv := [(3, .int (nI i)), (0, .ref b), (1, .ref (eA E 0)), (2, .ref (eA E 70))]) hl ⟨Nat.le_of_ble_eq_true rfl, Nat.le_of_ble_eq_true rfl⟩ d_law_1411 (fun H locs u hu hW => ?_)
  obtain ⟨P', c2, h4⟩ := h3 u hu
  refine lv_aload_n X.x X.b d_law_1414 rfl (lv_at hl 3 rfl) ?_
  refine lv_aload_n X.x X.b d_law_1415 rfl (lv_at hl 1 rfl) ?_
  refine lv_iload_n X.x X.b d_law_1416 rfl (lv_at hl 0 rfl) ?_
  refine lv_iconst (v := nI 1) X.x X.b d_law_1417 (by decide) ?_
  refine lv_iadd X.x X.b d_law_1418 ?_
  rw [nI_add]
  refine va_sld X.x X.b hX hbl hbA hW.2.2 (q_in (show i + 1 < L by omega) (by omega)) d_law_1419 ?_
  rw [nI_clamp (by omega)]
  refine q_cvip X c2 hW (q_recv X hW ds_R rfl) ok_R_judge mw_1166 ⟨by show d2 + 1 ≤ 13; omega, by show 8 + (3 + 11) + 39 * d2 ≤ 512; omega⟩ (As := [.int (xs (i + 1))]) rfl rfl (Nat.le_of_ble_eq_true rfl) (lv := [(3, .int (nI i)), (0, .ref b), (1, .ref (eA E 0)), (2, .ref (eA E 70))]) hl ⟨Nat.le_of_ble_eq_true rfl, Nat.le_of_ble_eq_true rfl⟩ d_law_1420 (fun H locs v hv hW => ?_)
  refine lv_icmp_eq (tgt := 1513) X.x X.b d_law_1423 (by decide) (fun _ => kk v H locs (h4 v hv) hW) (fun z => absurd rfl z)
set_option maxHeartbeats 1000000 in
theorem law_image {p : Program} {l : Launch} {e : Env} {s : State} {m : MethodId} {below : List Frame} {meth : Method} {c : Code} {H : Heap} {locs : List Loc} {Q : State → Prop} {ls : Array Slot} {E : QE} {S : QM} {J : QM → Prop} {rt : Option FieldType} {b L i : Nat} {xs : Nat → Int32} (X : qX E p s m #[.ref b] meth c code 4 rt "CarelessMistLaw") (hX : va_X b L xs s s.heap) (hbl : b < s.heap.size) (hbA : ¬ qAA E s.heap.size b) (hi : i + 6 ≤ L) (hL : L ≤ 3072) (h : qH_image E l J) (hJ : J S) (hW : qWH E S s H locs) (hl : lv_has ls 4 [(3, .int (nI i)), (0, .ref b), (1, .ref (eA E 0)), (2, .ref (eA E 70))])
    (kk : ∀ (S : QM) (H : Heap) (locs : List Loc), J S → qWH E S s H locs → W p l e room_1 s m #[.ref b] below meth c H locs 82 1814 Q (F0 m 1513 ls [])) : W p l e room_1 s m #[.ref b] below meth c H locs 82 1814 Q (F0 m 1428 ls []) := by
  obtain ⟨d1, d2, r, P, h1, h2, c1, h3⟩ := h S hJ
  refine lv_aload_n X.x X.b d_law_1428 rfl (lv_at hl 2 rfl) ?_
  refine q_cvip X c1 hW (q_recv X hW ds_X rfl) ok_X_image mw_647 ⟨by show d1 + 1 ≤ 13; omega, by show 8 + (1 + 11) + 39 * d1 ≤ 512; omega⟩ (As := []) rfl rfl (Nat.le_of_ble_eq_true rfl) (lv := [(3, .int (nI i)), (0, .ref b), (1, .ref (eA E 0)), (2, .ref (eA E 70))]) hl ⟨Nat.le_of_ble_eq_true rfl, Nat.le_of_ble_eq_true rfl⟩ d_law_1429 (fun H locs u hu hW => ?_)
  obtain ⟨P', c2, h4⟩ := h3 u hu
  refine lv_aload_n X.x X.b d_law_1432 rfl (lv_at hl 3 rfl) ?_
  refine q_cvip X c2 hW (q_recv X hW ds_R rfl) ok_R_image mw_1170 ⟨by show d2 + 1 ≤ 13; omega, by show 8 + (1 + 11) + 39 * d2 ≤ 512; omega⟩ (As := []) rfl rfl (Nat.le_of_ble_eq_true rfl) (lv := [(3, .int (nI i)), (0, .ref b), (1, .ref (eA E 0)), (2, .ref (eA E 70))]) hl ⟨Nat.le_of_ble_eq_true rfl, Nat.le_of_ble_eq_true rfl⟩ d_law_1433 (fun H locs v hv hW => ?_)
  refine lv_icmp_eq (tgt := 1513) X.x X.b d_law_1436 (by decide) (fun _ => kk v H locs (h4 v hv) hW) (fun z => absurd rfl z)
set_option maxHeartbeats 1000000 in
theorem law_undo {p : Program} {l : Launch} {e : Env} {s : State} {m : MethodId} {below : List Frame} {meth : Method} {c : Code} {H : Heap} {locs : List Loc} {Q : State → Prop} {ls : Array Slot} {E : QE} {S : QM} {J : QM → Prop} {rt : Option FieldType} {b L i : Nat} {xs : Nat → Int32} (X : qX E p s m #[.ref b] meth c code 4 rt "CarelessMistLaw") (hX : va_X b L xs s s.heap) (hbl : b < s.heap.size) (hbA : ¬ qAA E s.heap.size b) (hi : i + 6 ≤ L) (hL : L ≤ 3072) (h : qH_undo E l J) (hJ : J S) (hW : qWH E S s H locs) (hl : lv_has ls 4 [(3, .int (nI i)), (0, .ref b), (1, .ref (eA E 0)), (2, .ref (eA E 70))])
    (kk : ∀ (S : QM) (H : Heap) (locs : List Loc), J S → qWH E S s H locs → W p l e room_1 s m #[.ref b] below meth c H locs 82 1814 Q (F0 m 1513 ls [])) : W p l e room_1 s m #[.ref b] below meth c H locs 82 1814 Q (F0 m 1441 ls []) := by
  obtain ⟨d1, d2, r, P, h1, h2, c1, h3⟩ := h S hJ
  refine lv_aload_n X.x X.b d_law_1441 rfl (lv_at hl 2 rfl) ?_
  refine q_cvip X c1 hW (q_recv X hW ds_X rfl) ok_X_undo mw_651 ⟨by show d1 + 1 ≤ 13; omega, by show 8 + (1 + 11) + 39 * d1 ≤ 512; omega⟩ (As := []) rfl rfl (Nat.le_of_ble_eq_true rfl) (lv := [(3, .int (nI i)), (0, .ref b), (1, .ref (eA E 0)), (2, .ref (eA E 70))]) hl ⟨Nat.le_of_ble_eq_true rfl, Nat.le_of_ble_eq_true rfl⟩ d_law_1442 (fun H locs u hu hW => ?_)
  obtain ⟨P', c2, h4⟩ := h3 u hu
  refine lv_aload_n X.x X.b d_law_1445 rfl (lv_at hl 3 rfl) ?_
  refine q_cvip X c2 hW (q_recv X hW ds_R rfl) ok_R_undo mw_1174 ⟨by show d2 + 1 ≤ 13; omega, by show 8 + (1 + 11) + 39 * d2 ≤ 512; omega⟩ (As := []) rfl rfl (Nat.le_of_ble_eq_true rfl) (lv := [(3, .int (nI i)), (0, .ref b), (1, .ref (eA E 0)), (2, .ref (eA E 70))]) hl ⟨Nat.le_of_ble_eq_true rfl, Nat.le_of_ble_eq_true rfl⟩ d_law_1446 (fun H locs v hv hW => ?_)
  refine lv_icmp_eq (tgt := 1513) X.x X.b d_law_1449 (by decide) (fun _ => kk v H locs (h4 v hv) hW) (fun z => absurd rfl z)
set_option maxHeartbeats 1000000 in
theorem law_tear {p : Program} {l : Launch} {e : Env} {s : State} {m : MethodId} {below : List Frame} {meth : Method} {c : Code} {H : Heap} {locs : List Loc} {Q : State → Prop} {ls : Array Slot} {E : QE} {S : QM} {J : QM → Prop} {rt : Option FieldType} {b L i : Nat} {xs : Nat → Int32} (X : qX E p s m #[.ref b] meth c code 4 rt "CarelessMistLaw") (hX : va_X b L xs s s.heap) (hbl : b < s.heap.size) (hbA : ¬ qAA E s.heap.size b) (hi : i + 6 ≤ L) (hL : L ≤ 3072) (h : qH_tear E l J) (hJ : J S) (hW : qWH E S s H locs) (hl : lv_has ls 4 [(3, .int (nI i)), (0, .ref b), (1, .ref (eA E 0)), (2, .ref (eA E 70))])
    (kk : ∀ (S : QM) (H : Heap) (locs : List Loc), J S → qWH E S s H locs → W p l e room_1 s m #[.ref b] below meth c H locs 82 1814 Q (F0 m 1513 ls [])) : W p l e room_1 s m #[.ref b] below meth c H locs 82 1814 Q (F0 m 1454 ls []) := by
  obtain ⟨d1, d2, r, P, h1, h2, c1, h3⟩ := h S hJ
  refine lv_aload_n X.x X.b d_law_1454 rfl (lv_at hl 2 rfl) ?_
  refine q_cvip X c1 hW (q_recv X hW ds_X rfl) ok_X_tear mw_655 ⟨by show d1 + 1 ≤ 13; omega, by show 8 + (2 + 11) + 39 * d1 ≤ 512; omega⟩ (As := []) rfl rfl (Nat.le_of_ble_eq_true rfl) (lv := [(3, .int (nI i)), (0, .ref b), (1, .ref (eA E 0)), (2, .ref (eA E 70))]) hl ⟨Nat.le_of_ble_eq_true rfl, Nat.le_of_ble_eq_true rfl⟩ d_law_1455 (fun H locs u hu hW => ?_)
  obtain ⟨P', c2, h4⟩ := h3 u hu
  refine lv_aload_n X.x X.b d_law_1458 rfl (lv_at hl 3 rfl) ?_
  refine q_cvip X c2 hW (q_recv X hW ds_R rfl) ok_R_tear mw_1178 ⟨by show d2 + 1 ≤ 13; omega, by show 8 + (2 + 11) + 39 * d2 ≤ 512; omega⟩ (As := []) rfl rfl (Nat.le_of_ble_eq_true rfl) (lv := [(3, .int (nI i)), (0, .ref b), (1, .ref (eA E 0)), (2, .ref (eA E 70))]) hl ⟨Nat.le_of_ble_eq_true rfl, Nat.le_of_ble_eq_true rfl⟩ d_law_1459 (fun H locs v hv hW => ?_)
  refine lv_icmp_eq (tgt := 1513) X.x X.b d_law_1462 (by decide) (fun _ => kk v H locs (h4 v hv) hW) (fun z => absurd rfl z)
set_option maxHeartbeats 1000000 in
theorem law_count {p : Program} {l : Launch} {e : Env} {s : State} {m : MethodId} {below : List Frame} {meth : Method} {c : Code} {H : Heap} {locs : List Loc} {Q : State → Prop} {ls : Array Slot} {E : QE} {S : QM} {J : QM → Prop} {rt : Option FieldType} {b L i : Nat} {xs : Nat → Int32} (X : qX E p s m #[.ref b] meth c code 4 rt "CarelessMistLaw") (hX : va_X b L xs s s.heap) (hbl : b < s.heap.size) (hbA : ¬ qAA E s.heap.size b) (hi : i + 6 ≤ L) (hL : L ≤ 3072) (h : qH_count E l J) (hJ : J S) (hW : qWH E S s H locs) (hl : lv_has ls 4 [(3, .int (nI i)), (0, .ref b), (1, .ref (eA E 0)), (2, .ref (eA E 70))])
    (kk : ∀ (S : QM) (H : Heap) (locs : List Loc), J S → qWH E S s H locs → W p l e room_1 s m #[.ref b] below meth c H locs 82 1814 Q (F0 m 1513 ls [])) : W p l e room_1 s m #[.ref b] below meth c H locs 82 1814 Q (F0 m 1467 ls []) := by
  obtain ⟨d1, d2, r, P, h1, h2, c1, h3⟩ := h S hJ (xs (i + 1))
  refine lv_aload_n X.x X.b d_law_1467 rfl (lv_at hl 2 rfl) ?_
  refine lv_aload_n X.x X.b d_law_1468 rfl (lv_at hl 1 rfl) ?_
  refine lv_iload_n X.x X.b d_law_1469 rfl (lv_at hl 0 rfl) ?_
  refine lv_iconst (v := nI 1) X.x X.b d_law_1470 (by decide) ?_
  refine lv_iadd X.x X.b d_law_1471 ?_
  rw [nI_add]
  refine va_sld X.x X.b hX hbl hbA hW.2.2 (q_in (show i + 1 < L by omega) (by omega)) d_law_1472 ?_
  rw [nI_clamp (by omega)]
  refine q_cvip X c1 hW (q_recv X hW ds_X rfl) ok_X_count mw_659 ⟨by show d1 + 1 ≤ 13; omega, by show 8 + (2 + 11) + 39 * d1 ≤ 512; omega⟩ (As := [.int (xs (i + 1))]) rfl rfl (Nat.le_of_ble_eq_true rfl) (lv := [(3, .int (nI i)), (0, .ref b), (1, .ref (eA E 0)), (2, .ref (eA E 70))]) hl ⟨Nat.le_of_ble_eq_true rfl, Nat.le_of_ble_eq_true rfl⟩ d_law_1473 (fun H locs u hu hW => ?_)
  obtain ⟨P', c2, h4⟩ := h3 u hu
  refine lv_aload_n X.x X.b d_law_1476 rfl (lv_at hl 3 rfl) ?_
  refine lv_aload_n X.x X.b d_law_1477 rfl (lv_at hl 1 rfl) ?_
  refine lv_iload_n X.x X.b d_law_1478 rfl (lv_at hl 0 rfl) ?_
  refine lv_iconst (v := nI 1) X.x X.b d_law_1479 (by decide) ?_
  refine lv_iadd X.x X.b d_law_1480 ?_
  rw [nI_add]
  refine va_sld X.x X.b hX hbl hbA hW.2.2 (q_in (show i + 1 < L by omega) (by omega)) d_law_1481 ?_
  rw [nI_clamp (by omega)]
  refine q_cvip X c2 hW (q_recv X hW ds_R rfl) ok_R_count mw_1182 ⟨by show d2 + 1 ≤ 13; omega, by show 8 + (4 + 11) + 39 * d2 ≤ 512; omega⟩ (As := [.int (xs (i + 1))]) rfl rfl (Nat.le_of_ble_eq_true rfl) (lv := [(3, .int (nI i)), (0, .ref b), (1, .ref (eA E 0)), (2, .ref (eA E 70))]) hl ⟨Nat.le_of_ble_eq_true rfl, Nat.le_of_ble_eq_true rfl⟩ d_law_1482 (fun H locs v hv hW => ?_)
  refine lv_icmp_eq (tgt := 1513) X.x X.b d_law_1485 (by decide) (fun _ => kk v H locs (h4 v hv) hW) (fun z => absurd rfl z)
set_option maxHeartbeats 1000000 in
theorem law_status {p : Program} {l : Launch} {e : Env} {s : State} {m : MethodId} {below : List Frame} {meth : Method} {c : Code} {H : Heap} {locs : List Loc} {Q : State → Prop} {ls : Array Slot} {E : QE} {S : QM} {J : QM → Prop} {rt : Option FieldType} {b L i : Nat} {xs : Nat → Int32} (X : qX E p s m #[.ref b] meth c code 4 rt "CarelessMistLaw") (hX : va_X b L xs s s.heap) (hbl : b < s.heap.size) (hbA : ¬ qAA E s.heap.size b) (hi : i + 6 ≤ L) (hL : L ≤ 3072) (h : qH_status E l J) (hJ : J S) (hW : qWH E S s H locs) (hl : lv_has ls 4 [(3, .int (nI i)), (0, .ref b), (1, .ref (eA E 0)), (2, .ref (eA E 70))])
    (kk : ∀ (S : QM) (H : Heap) (locs : List Loc), J S → qWH E S s H locs → W p l e room_1 s m #[.ref b] below meth c H locs 82 1814 Q (F0 m 1513 ls [])) : W p l e room_1 s m #[.ref b] below meth c H locs 82 1814 Q (F0 m 1490 ls []) := by
  obtain ⟨d1, d2, r, P, h1, h2, c1, h3⟩ := h S hJ (xs (i + 1))
  refine lv_aload_n X.x X.b d_law_1490 rfl (lv_at hl 2 rfl) ?_
  refine lv_aload_n X.x X.b d_law_1491 rfl (lv_at hl 1 rfl) ?_
  refine lv_iload_n X.x X.b d_law_1492 rfl (lv_at hl 0 rfl) ?_
  refine lv_iconst (v := nI 1) X.x X.b d_law_1493 (by decide) ?_
  refine lv_iadd X.x X.b d_law_1494 ?_
  rw [nI_add]
  refine va_sld X.x X.b hX hbl hbA hW.2.2 (q_in (show i + 1 < L by omega) (by omega)) d_law_1495 ?_
  rw [nI_clamp (by omega)]
  refine q_cvip X c1 hW (q_recv X hW ds_X rfl) ok_X_status mw_667 ⟨by show d1 + 1 ≤ 13; omega, by show 8 + (4 + 11) + 39 * d1 ≤ 512; omega⟩ (As := [.int (xs (i + 1))]) rfl rfl (Nat.le_of_ble_eq_true rfl) (lv := [(3, .int (nI i)), (0, .ref b), (1, .ref (eA E 0)), (2, .ref (eA E 70))]) hl ⟨Nat.le_of_ble_eq_true rfl, Nat.le_of_ble_eq_true rfl⟩ d_law_1496 (fun H locs u hu hW => ?_)
  obtain ⟨P', c2, h4⟩ := h3 u hu
  refine lv_aload_n X.x X.b d_law_1499 rfl (lv_at hl 3 rfl) ?_
  refine lv_aload_n X.x X.b d_law_1500 rfl (lv_at hl 1 rfl) ?_
  refine lv_iload_n X.x X.b d_law_1501 rfl (lv_at hl 0 rfl) ?_
  refine lv_iconst (v := nI 1) X.x X.b d_law_1502 (by decide) ?_
  refine lv_iadd X.x X.b d_law_1503 ?_
  rw [nI_add]
  refine va_sld X.x X.b hX hbl hbA hW.2.2 (q_in (show i + 1 < L by omega) (by omega)) d_law_1504 ?_
  rw [nI_clamp (by omega)]
  refine q_cvip X c2 hW (q_recv X hW ds_R rfl) ok_R_status mw_1186 ⟨by show d2 + 1 ≤ 13; omega, by show 8 + (2 + 11) + 39 * d2 ≤ 512; omega⟩ (As := [.int (xs (i + 1))]) rfl rfl (Nat.le_of_ble_eq_true rfl) (lv := [(3, .int (nI i)), (0, .ref b), (1, .ref (eA E 0)), (2, .ref (eA E 70))]) hl ⟨Nat.le_of_ble_eq_true rfl, Nat.le_of_ble_eq_true rfl⟩ d_law_1505 (fun H locs v hv hW => ?_)
  refine lv_icmp_eq (tgt := 1513) X.x X.b d_law_1508 (by decide) (fun _ => kk v H locs (h4 v hv) hW) (fun z => absurd rfl z)
