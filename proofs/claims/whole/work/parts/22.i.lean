set_option maxHeartbeats 4000000 in
theorem law_loop {p : Program} {l : Launch} {e : Env} {s : State} {m : MethodId} {below : List Frame} {meth : Method} {c : Code} {E : QE} {J : QM → Prop} {b L : Nat} {xs : Nat → Int32} (X : qX E p s m #[.ref b] meth c code 4 ret "CarelessMistLaw") (hX : va_X b L xs s s.heap) (hbl : b < s.heap.size) (hbA : ¬ qAA E s.heap.size b) (hnew : ∀ q, qAA E s.heap.size q → s.heap.size ≤ q) (hL : L ≤ 3072) (h_turn : qH_turn E l J) (h_listed : qH_listed E l J) (h_thing : qH_thing E l J) (h_walker : qH_walker E l J) (h_of : qH_of E l J) (h_change : qH_change E l J) (h_ofWalker : qH_ofWalker E l J) (h_lead : qH_lead E l J) (h_sees : qH_sees E l J) (h_seenBy : qH_seenBy E l J) (h_go : qH_go E l J) (h_now : qH_now E l J) (h_ahead : qH_ahead E l J) (h_later : qH_later E l J) (h_arrives : qH_arrives E l J) (h_spies : qH_spies E l J) (h_meet : qH_meet E l J) (h_startFor : qH_startFor E l J) (h_aimFor : qH_aimFor E l J) (h_kindFor : qH_kindFor E l J) (h_paceFor : qH_paceFor E l J) (h_giveUp : qH_giveUp E l J) (h_fits : qH_fits E l J) (h_kinds : qH_kinds E l J) (h_morning : qH_morning E l J) (h_odds : qH_odds E l J) (h_seed : qH_seed E l J) (h_feed : qH_feed E l J) (h_wipe : qH_wipe E l J) (h_text : qH_text E l J) (h_hold : qH_hold E l J) (h_as : qH_as E l J) (h_sheet : qH_sheet E l J) (h_write : qH_write E l J) (h_copy : qH_copy E l J) (h_load : qH_load E l J) (h_judge : qH_judge E l J) (h_image : qH_image E l J) (h_undo : qH_undo E l J) (h_tear : qH_tear E l J) (h_count : qH_count E l J) (h_status : qH_status E l J) :
    ∀ (fu i : Nat), i ≤ L → L - i < fu → ∀ (S : QM) (H : Heap) (locs : List Loc) (ls : Array Slot), J S → qWH E S s H locs → lv_has ls 4 [(3, .int (nI i)), (0, .ref b), (1, .ref (eA E 0)), (2, .ref (eA E 70))] → W p l e room_1 s m #[.ref b] below meth c H locs 82 1814 (lw_Z below #[.ref b] s) (F0 m 18 ls []) := by
  intro fu
  induction fu with
  | zero =>
    intro i hi hfu
    exact absurd hfu (Nat.not_lt_zero _)
  | succ fu ih =>
    intro i hi hfu S H locs ls hJ hW hl
    refine lv_iload_n X.x X.b d_law_18 rfl (lv_at hl 0 rfl) ?_
    refine lv_aload_n X.x X.b d_law_19 rfl (lv_at hl 1 rfl) ?_
    refine va_slen X.x X.b hX hbl hbA hW.2.2 d_law_20 ?_
    refine lv_bipush (v := nI 6) X.x X.b d_law_21 (by decide) ?_
    refine lv_isub X.x X.b d_law_23 ?_
    have key : (Int32.ofNat L - nI 6 < nI i) ↔ L < i + 6 := law_end hL hi
    refine lv_icmp_gt (tgt := 1519) X.x X.b d_law_24 (by decide) (fun cz => ?_) (fun cz => ?_)
    · refine lv_iconst (v := 1) X.x X.b d_law_1519 (by decide) ?_
      refine va_forget (fun q hq => hnew _ (hW.2.2.2.2 q hq)) ?_
      refine W.widen (k := 600000) (n := 7302250) (Nat.le_of_ble_eq_true rfl) (Nat.le_of_ble_eq_true rfl) ?_
      exact lw_ret X.x X.b X.r X.k d_law_1520
    · have cz : i + 6 ≤ L := Nat.not_lt.mp (fun z => cz (key.mpr z))
      have kk : ∀ (S : QM) (H : Heap) (locs : List Loc), J S → qWH E S s H locs → W p l e room_1 s m #[.ref b] below meth c H locs 82 1814 (lw_Z below #[.ref b] s) (F0 m 1513 ls []) := by
        intro S H locs hJ hW
        refine lv_iinc (v := nI (i + 6)) (lv' := [(3, .int (nI (i + 6))), (0, .ref b), (1, .ref (eA E 0)), (2, .ref (eA E 70))]) X.x X.b d_law_1513 hl (k := 0) rfl (by rw [show Int32.ofInt 6 = nI 6 from by decide, nI_add]) (by decide) rfl (fun ls hl => ?_)
        refine lv_goto (tgt := 18) X.x X.b d_law_1516 (by decide) ?_
        exact ih (i + 6) (by omega) (by omega) S H locs ls hJ hW hl
      refine lv_aload_n X.x X.b d_law_27 rfl (lv_at hl 1 rfl) ?_
      refine lv_iload_n X.x X.b d_law_28 rfl (lv_at hl 0 rfl) ?_
      refine va_sld X.x X.b hX hbl hbA hW.2.2 (q_in (show i < L by omega) (by omega)) d_law_29 ?_
      refine lv_bipush (v := nI 63) X.x X.b d_law_30 (by decide) ?_
      refine lv_iand X.x X.b d_law_32 ?_
      refine lv_topi (fun x ex => ?_)
      by_cases c_0 : x = nI 0
      · refine W.eq (congrArg (fun z => F0 m 33 ls (.int z :: [])) c_0) ?_
        refine lv_tableIn (tgt := 216) (off := 183) X.x X.b d_law_33 (by decide) (by decide) (by decide) (by decide) ?_
        exact law_turn X hX hbl hbA cz hL h_turn hJ hW hl kk
      by_cases c_1 : x = nI 1
      · refine W.eq (congrArg (fun z => F0 m 33 ls (.int z :: [])) c_1) ?_
        refine lv_tableIn (tgt := 259) (off := 226) X.x X.b d_law_33 (by decide) (by decide) (by decide) (by decide) ?_
        exact law_listed X hX hbl hbA cz hL h_listed hJ hW hl kk
      by_cases c_2 : x = nI 2
      · refine W.eq (congrArg (fun z => F0 m 33 ls (.int z :: [])) c_2) ?_
        refine lv_tableIn (tgt := 282) (off := 249) X.x X.b d_law_33 (by decide) (by decide) (by decide) (by decide) ?_
        exact law_thing X hX hbl hbA cz hL h_thing hJ hW hl kk
      by_cases c_3 : x = nI 3
      · refine W.eq (congrArg (fun z => F0 m 33 ls (.int z :: [])) c_3) ?_
        refine lv_tableIn (tgt := 315) (off := 282) X.x X.b d_law_33 (by decide) (by decide) (by decide) (by decide) ?_
        exact law_walker X hX hbl hbA cz hL h_walker hJ hW hl kk
      by_cases c_4 : x = nI 4
      · refine W.eq (congrArg (fun z => F0 m 33 ls (.int z :: [])) c_4) ?_
        refine lv_tableIn (tgt := 348) (off := 315) X.x X.b d_law_33 (by decide) (by decide) (by decide) (by decide) ?_
        exact law_of X hX hbl hbA cz hL h_of hJ hW hl kk
      by_cases c_5 : x = nI 5
      · refine W.eq (congrArg (fun z => F0 m 33 ls (.int z :: [])) c_5) ?_
        refine lv_tableIn (tgt := 381) (off := 348) X.x X.b d_law_33 (by decide) (by decide) (by decide) (by decide) ?_
        exact law_change X hX hbl hbA cz hL h_change hJ hW hl kk
      by_cases c_6 : x = nI 6
      · refine W.eq (congrArg (fun z => F0 m 33 ls (.int z :: [])) c_6) ?_
        refine lv_tableIn (tgt := 424) (off := 391) X.x X.b d_law_33 (by decide) (by decide) (by decide) (by decide) ?_
        exact law_ofWalker X hX hbl hbA cz hL h_ofWalker hJ hW hl kk
      by_cases c_7 : x = nI 7
      · refine W.eq (congrArg (fun z => F0 m 33 ls (.int z :: [])) c_7) ?_
        refine lv_tableIn (tgt := 457) (off := 424) X.x X.b d_law_33 (by decide) (by decide) (by decide) (by decide) ?_
        exact law_lead X hX hbl hbA cz hL h_lead hJ hW hl kk
      by_cases c_8 : x = nI 8
      · refine W.eq (congrArg (fun z => F0 m 33 ls (.int z :: [])) c_8) ?_
        refine lv_tableIn (tgt := 500) (off := 467) X.x X.b d_law_33 (by decide) (by decide) (by decide) (by decide) ?_
        exact law_sees X hX hbl hbA cz hL h_sees hJ hW hl kk
      by_cases c_9 : x = nI 9
      · refine W.eq (congrArg (fun z => F0 m 33 ls (.int z :: [])) c_9) ?_
        refine lv_tableIn (tgt := 523) (off := 490) X.x X.b d_law_33 (by decide) (by decide) (by decide) (by decide) ?_
        exact law_seenBy X hX hbl hbA cz hL h_seenBy hJ hW hl kk
      by_cases c_10 : x = nI 10
      · refine W.eq (congrArg (fun z => F0 m 33 ls (.int z :: [])) c_10) ?_
        refine lv_tableIn (tgt := 546) (off := 513) X.x X.b d_law_33 (by decide) (by decide) (by decide) (by decide) ?_
        exact law_go X hX hbl hbA cz hL h_go hJ hW hl kk
      by_cases c_11 : x = nI 11
      · refine W.eq (congrArg (fun z => F0 m 33 ls (.int z :: [])) c_11) ?_
        refine lv_tableIn (tgt := 569) (off := 536) X.x X.b d_law_33 (by decide) (by decide) (by decide) (by decide) ?_
        exact law_now X hX hbl hbA cz hL h_now hJ hW hl kk
      by_cases c_12 : x = nI 12
      · refine W.eq (congrArg (fun z => F0 m 33 ls (.int z :: [])) c_12) ?_
        refine lv_tableIn (tgt := 592) (off := 559) X.x X.b d_law_33 (by decide) (by decide) (by decide) (by decide) ?_
        exact law_ahead X hX hbl hbA cz hL h_ahead hJ hW hl kk
      by_cases c_13 : x = nI 13
      · refine W.eq (congrArg (fun z => F0 m 33 ls (.int z :: [])) c_13) ?_
        refine lv_tableIn (tgt := 635) (off := 602) X.x X.b d_law_33 (by decide) (by decide) (by decide) (by decide) ?_
        exact law_later X hX hbl hbA cz hL h_later hJ hW hl kk
      by_cases c_14 : x = nI 14
      · refine W.eq (congrArg (fun z => F0 m 33 ls (.int z :: [])) c_14) ?_
        refine lv_tableIn (tgt := 678) (off := 645) X.x X.b d_law_33 (by decide) (by decide) (by decide) (by decide) ?_
        exact law_arrives X hX hbl hbA cz hL h_arrives hJ hW hl kk
      by_cases c_15 : x = nI 15
      · refine W.eq (congrArg (fun z => F0 m 33 ls (.int z :: [])) c_15) ?_
        refine lv_tableIn (tgt := 711) (off := 678) X.x X.b d_law_33 (by decide) (by decide) (by decide) (by decide) ?_
        exact law_spies X hX hbl hbA cz hL h_spies hJ hW hl kk
      by_cases c_16 : x = nI 16
      · refine W.eq (congrArg (fun z => F0 m 33 ls (.int z :: [])) c_16) ?_
        refine lv_tableIn (tgt := 744) (off := 711) X.x X.b d_law_33 (by decide) (by decide) (by decide) (by decide) ?_
        exact law_meet X hX hbl hbA cz hL h_meet hJ hW hl kk
      by_cases c_17 : x = nI 17
      · refine W.eq (congrArg (fun z => F0 m 33 ls (.int z :: [])) c_17) ?_
        refine lv_tableIn (tgt := 777) (off := 744) X.x X.b d_law_33 (by decide) (by decide) (by decide) (by decide) ?_
        exact law_startFor X hX hbl hbA cz hL h_startFor hJ hW hl kk
      by_cases c_18 : x = nI 18
      · refine W.eq (congrArg (fun z => F0 m 33 ls (.int z :: [])) c_18) ?_
        refine lv_tableIn (tgt := 810) (off := 777) X.x X.b d_law_33 (by decide) (by decide) (by decide) (by decide) ?_
        exact law_aimFor X hX hbl hbA cz hL h_aimFor hJ hW hl kk
      by_cases c_19 : x = nI 19
      · refine W.eq (congrArg (fun z => F0 m 33 ls (.int z :: [])) c_19) ?_
        refine lv_tableIn (tgt := 843) (off := 810) X.x X.b d_law_33 (by decide) (by decide) (by decide) (by decide) ?_
        exact law_kindFor X hX hbl hbA cz hL h_kindFor hJ hW hl kk
      by_cases c_20 : x = nI 20
      · refine W.eq (congrArg (fun z => F0 m 33 ls (.int z :: [])) c_20) ?_
        refine lv_tableIn (tgt := 876) (off := 843) X.x X.b d_law_33 (by decide) (by decide) (by decide) (by decide) ?_
        exact law_paceFor X hX hbl hbA cz hL h_paceFor hJ hW hl kk
      by_cases c_21 : x = nI 21
      · refine W.eq (congrArg (fun z => F0 m 33 ls (.int z :: [])) c_21) ?_
        refine lv_tableIn (tgt := 909) (off := 876) X.x X.b d_law_33 (by decide) (by decide) (by decide) (by decide) ?_
        exact law_giveUp X hX hbl hbA cz hL h_giveUp hJ hW hl kk
      by_cases c_22 : x = nI 22
      · refine W.eq (congrArg (fun z => F0 m 33 ls (.int z :: [])) c_22) ?_
        refine lv_tableIn (tgt := 942) (off := 909) X.x X.b d_law_33 (by decide) (by decide) (by decide) (by decide) ?_
        exact law_fits X hX hbl hbA cz hL h_fits hJ hW hl kk
      by_cases c_23 : x = nI 23
      · refine W.eq (congrArg (fun z => F0 m 33 ls (.int z :: [])) c_23) ?_
        refine lv_tableIn (tgt := 975) (off := 942) X.x X.b d_law_33 (by decide) (by decide) (by decide) (by decide) ?_
        exact law_kinds X hX hbl hbA cz hL h_kinds hJ hW hl kk
      by_cases c_24 : x = nI 24
      · refine W.eq (congrArg (fun z => F0 m 33 ls (.int z :: [])) c_24) ?_
        refine lv_tableIn (tgt := 1008) (off := 975) X.x X.b d_law_33 (by decide) (by decide) (by decide) (by decide) ?_
        exact law_morning X hX hbl hbA cz hL h_morning hJ hW hl kk
      by_cases c_25 : x = nI 25
      · refine W.eq (congrArg (fun z => F0 m 33 ls (.int z :: [])) c_25) ?_
        refine lv_tableIn (tgt := 1031) (off := 998) X.x X.b d_law_33 (by decide) (by decide) (by decide) (by decide) ?_
        exact law_odds X hX hbl hbA cz hL h_odds hJ hW hl kk
      by_cases c_26 : x = nI 26
      · refine W.eq (congrArg (fun z => F0 m 33 ls (.int z :: [])) c_26) ?_
        refine lv_tableIn (tgt := 1085) (off := 1052) X.x X.b d_law_33 (by decide) (by decide) (by decide) (by decide) ?_
        exact law_seed X hX hbl hbA cz hL h_seed hJ hW hl kk
      by_cases c_27 : x = nI 27
      · refine W.eq (congrArg (fun z => F0 m 33 ls (.int z :: [])) c_27) ?_
        refine lv_tableIn (tgt := 1108) (off := 1075) X.x X.b d_law_33 (by decide) (by decide) (by decide) (by decide) ?_
        exact law_feed X hX hbl hbA cz hL h_feed hJ hW hl kk
      by_cases c_28 : x = nI 28
      · refine W.eq (congrArg (fun z => F0 m 33 ls (.int z :: [])) c_28) ?_
        refine lv_tableIn (tgt := 1141) (off := 1108) X.x X.b d_law_33 (by decide) (by decide) (by decide) (by decide) ?_
        exact law_wipe X hX hbl hbA cz hL h_wipe hJ hW hl kk
      by_cases c_29 : x = nI 29
      · refine W.eq (congrArg (fun z => F0 m 33 ls (.int z :: [])) c_29) ?_
        refine lv_tableIn (tgt := 1154) (off := 1121) X.x X.b d_law_33 (by decide) (by decide) (by decide) (by decide) ?_
        exact law_text X hX hbl hbA cz hL h_text hJ hW hl kk
      by_cases c_30 : x = nI 30
      · refine W.eq (congrArg (fun z => F0 m 33 ls (.int z :: [])) c_30) ?_
        refine lv_tableIn (tgt := 1167) (off := 1134) X.x X.b d_law_33 (by decide) (by decide) (by decide) (by decide) ?_
        exact law_hold X hX hbl hbA cz hL h_hold hJ hW hl kk
      by_cases c_31 : x = nI 31
      · refine W.eq (congrArg (fun z => F0 m 33 ls (.int z :: [])) c_31) ?_
        refine lv_tableIn (tgt := 1200) (off := 1167) X.x X.b d_law_33 (by decide) (by decide) (by decide) (by decide) ?_
        exact law_as X hX hbl hbA cz hL h_as hJ hW hl kk
      by_cases c_32 : x = nI 32
      · refine W.eq (congrArg (fun z => F0 m 33 ls (.int z :: [])) c_32) ?_
        refine lv_tableIn (tgt := 1233) (off := 1200) X.x X.b d_law_33 (by decide) (by decide) (by decide) (by decide) ?_
        exact law_sheet X hX hbl hbA cz hL h_sheet hJ hW hl kk
      by_cases c_33 : x = nI 33
      · refine W.eq (congrArg (fun z => F0 m 33 ls (.int z :: [])) c_33) ?_
        refine lv_tableIn (tgt := 1276) (off := 1243) X.x X.b d_law_33 (by decide) (by decide) (by decide) (by decide) ?_
        exact law_write X hX hbl hbA cz hL h_write hJ hW hl kk
      by_cases c_34 : x = nI 34
      · refine W.eq (congrArg (fun z => F0 m 33 ls (.int z :: [])) c_34) ?_
        refine lv_tableIn (tgt := 1319) (off := 1286) X.x X.b d_law_33 (by decide) (by decide) (by decide) (by decide) ?_
        exact law_copy X hX hbl hbA cz hL h_copy hJ hW hl kk
      by_cases c_35 : x = nI 35
      · refine W.eq (congrArg (fun z => F0 m 33 ls (.int z :: [])) c_35) ?_
        refine lv_tableIn (tgt := 1382) (off := 1349) X.x X.b d_law_33 (by decide) (by decide) (by decide) (by decide) ?_
        exact law_load X hX hbl hbA cz hL h_load hJ hW hl kk
      by_cases c_36 : x = nI 36
      · refine W.eq (congrArg (fun z => F0 m 33 ls (.int z :: [])) c_36) ?_
        refine lv_tableIn (tgt := 1405) (off := 1372) X.x X.b d_law_33 (by decide) (by decide) (by decide) (by decide) ?_
        exact law_judge X hX hbl hbA cz hL h_judge hJ hW hl kk
      by_cases c_37 : x = nI 37
      · refine W.eq (congrArg (fun z => F0 m 33 ls (.int z :: [])) c_37) ?_
        refine lv_tableIn (tgt := 1428) (off := 1395) X.x X.b d_law_33 (by decide) (by decide) (by decide) (by decide) ?_
        exact law_image X hX hbl hbA cz hL h_image hJ hW hl kk
      by_cases c_38 : x = nI 38
      · refine W.eq (congrArg (fun z => F0 m 33 ls (.int z :: [])) c_38) ?_
        refine lv_tableIn (tgt := 1441) (off := 1408) X.x X.b d_law_33 (by decide) (by decide) (by decide) (by decide) ?_
        exact law_undo X hX hbl hbA cz hL h_undo hJ hW hl kk
      by_cases c_39 : x = nI 39
      · refine W.eq (congrArg (fun z => F0 m 33 ls (.int z :: [])) c_39) ?_
        refine lv_tableIn (tgt := 1454) (off := 1421) X.x X.b d_law_33 (by decide) (by decide) (by decide) (by decide) ?_
        exact law_tear X hX hbl hbA cz hL h_tear hJ hW hl kk
      by_cases c_40 : x = nI 40
      · refine W.eq (congrArg (fun z => F0 m 33 ls (.int z :: [])) c_40) ?_
        refine lv_tableIn (tgt := 1467) (off := 1434) X.x X.b d_law_33 (by decide) (by decide) (by decide) (by decide) ?_
        exact law_count X hX hbl hbA cz hL h_count hJ hW hl kk
      by_cases c_41 : x = nI 41
      · refine W.eq (congrArg (fun z => F0 m 33 ls (.int z :: [])) c_41) ?_
        refine lv_tableIn (tgt := 1490) (off := 1457) X.x X.b d_law_33 (by decide) (by decide) (by decide) (by decide) ?_
        exact law_status X hX hbl hbA cz hL h_status hJ hW hl kk
      refine lv_tableOut (tgt := 1513) X.x X.b d_law_33 (by have q0 := lv_neT c_0 (by decide : Int32.toInt (nI 0) = 0); have q1 := lv_neT c_1 (by decide : Int32.toInt (nI 1) = 1); have q2 := lv_neT c_2 (by decide : Int32.toInt (nI 2) = 2); have q3 := lv_neT c_3 (by decide : Int32.toInt (nI 3) = 3); have q4 := lv_neT c_4 (by decide : Int32.toInt (nI 4) = 4); have q5 := lv_neT c_5 (by decide : Int32.toInt (nI 5) = 5); have q6 := lv_neT c_6 (by decide : Int32.toInt (nI 6) = 6); have q7 := lv_neT c_7 (by decide : Int32.toInt (nI 7) = 7); have q8 := lv_neT c_8 (by decide : Int32.toInt (nI 8) = 8); have q9 := lv_neT c_9 (by decide : Int32.toInt (nI 9) = 9); have q10 := lv_neT c_10 (by decide : Int32.toInt (nI 10) = 10); have q11 := lv_neT c_11 (by decide : Int32.toInt (nI 11) = 11); have q12 := lv_neT c_12 (by decide : Int32.toInt (nI 12) = 12); have q13 := lv_neT c_13 (by decide : Int32.toInt (nI 13) = 13); have q14 := lv_neT c_14 (by decide : Int32.toInt (nI 14) = 14); have q15 := lv_neT c_15 (by decide : Int32.toInt (nI 15) = 15); have q16 := lv_neT c_16 (by decide : Int32.toInt (nI 16) = 16); have q17 := lv_neT c_17 (by decide : Int32.toInt (nI 17) = 17); have q18 := lv_neT c_18 (by decide : Int32.toInt (nI 18) = 18); have q19 := lv_neT c_19 (by decide : Int32.toInt (nI 19) = 19); have q20 := lv_neT c_20 (by decide : Int32.toInt (nI 20) = 20); have q21 := lv_neT c_21 (by decide : Int32.toInt (nI 21) = 21); have q22 := lv_neT c_22 (by decide : Int32.toInt (nI 22) = 22); have q23 := lv_neT c_23 (by decide : Int32.toInt (nI 23) = 23); have q24 := lv_neT c_24 (by decide : Int32.toInt (nI 24) = 24); have q25 := lv_neT c_25 (by decide : Int32.toInt (nI 25) = 25); have q26 := lv_neT c_26 (by decide : Int32.toInt (nI 26) = 26); have q27 := lv_neT c_27 (by decide : Int32.toInt (nI 27) = 27); have q28 := lv_neT c_28 (by decide : Int32.toInt (nI 28) = 28); have q29 := lv_neT c_29 (by decide : Int32.toInt (nI 29) = 29); have q30 := lv_neT c_30 (by decide : Int32.toInt (nI 30) = 30); have q31 := lv_neT c_31 (by decide : Int32.toInt (nI 31) = 31); have q32 := lv_neT c_32 (by decide : Int32.toInt (nI 32) = 32); have q33 := lv_neT c_33 (by decide : Int32.toInt (nI 33) = 33); have q34 := lv_neT c_34 (by decide : Int32.toInt (nI 34) = 34); have q35 := lv_neT c_35 (by decide : Int32.toInt (nI 35) = 35); have q36 := lv_neT c_36 (by decide : Int32.toInt (nI 36) = 36); have q37 := lv_neT c_37 (by decide : Int32.toInt (nI 37) = 37); have q38 := lv_neT c_38 (by decide : Int32.toInt (nI 38) = 38); have q39 := lv_neT c_39 (by decide : Int32.toInt (nI 39) = 39); have q40 := lv_neT c_40 (by decide : Int32.toInt (nI 40) = 40); have q41 := lv_neT c_41 (by decide : Int32.toInt (nI 41) = 41); omega) (by decide) ?_
      exact kk S H locs hJ hW
