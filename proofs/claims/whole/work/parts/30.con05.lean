/-! X8_feed -/
set_option maxRecDepth 100000 in
set_option maxHeartbeats 4000000 in
theorem g_X8_feed_h37_b {X : gX} (C : gC X cX8_feed RX8 5 (some .int) 1 21) (F : Nat) (a0 : Int32) (a1 : Int64) (k37 : Int32 → gM → Option (Int32 × gM)) (hk37 : ∀ (x4 : Int32) (M : gM), G X (gQm X rvW rMW) 5 M [(0, .ref (xad X 0)), (2, .long a1), (4, .int x4)] [] 37 (k37 x4 M)) (x4 : Int32) (M : gM) : G X (gQm X rvW rMW) 5 M [(0, .ref (xad X 0)), (2, .long a1), (4, .int x4)] [] 37 (f_X8_feed_h37_b F a0 a1 k37 x4 M) := by
  unfold f_X8_feed_h37_b
  refine g_iload (pc := 37) C dX8_feed_37 2 rfl ?_
  refine g_if_lt (pc := 39) (tgt := 67) C dX8_feed_39 (by decide) ?_ ?_
  · refine g_aload_n (pc := 67) C dX8_feed_67 rfl 0 rfl ?_
    refine gf_X8_10 (pc := 68) (u := 1) C kd_0 rfl dX8_feed_68 ?_
    refine gf_X8_95 (pc := 71) C kd_1 dX8_feed_71 ?_
    exact g_iret (pc := 74) C dX8_feed_74 rfl rfl
  · refine g_aload_n (pc := 42) C dX8_feed_42 rfl 0 rfl ?_
    refine gf_X8_10 (pc := 43) (u := 1) C kd_0 rfl dX8_feed_43 ?_
    refine g_lload_n (pc := 46) C dX8_feed_46 rfl 1 rfl ?_
    refine g_bipush (pc := 47) C dX8_feed_47 ic_bipush_8 ?_
    refine g_iload (pc := 49) C dX8_feed_49 2 rfl ?_
    refine g_imul (pc := 51) C dX8_feed_51 ?_
    refine g_lushr (pc := 52) C dX8_feed_52 ?_
    refine g_l2i (pc := 53) C dX8_feed_53 ?_
    refine g_sipush (pc := 54) C dX8_feed_54 ic_sipush_255 ?_
    refine g_iand (pc := 57) C dX8_feed_57 ?_
    refine g_callV (pc := 58) C (g_runVN (stk := []) C (c_X6_add ((((a1.toUInt64 >>> (((8 : Int32) * x4).toInt64.toUInt64 &&& Int64.toUInt64 63)).toInt64).toInt32) &&& (255 : Int32)) M) rfl rfl rfl kd_1 rfl wC_X6_add wI_X6_add wV_X6_add wi_X6 wnm_X8_99 hy_X6_add (by decide) (Nat.le_of_ble_eq_true rfl) dX8_feed_58) (fun r2 => ?_)
    refine g_iinc (pc := 61) (j := 2) (lv' := [(4, .int (x4 + (-1 : Int32))), (0, .ref (xad X 0)), (2, .long a1)]) C dX8_feed_61 rfl (ii_m1 _) (by decide) rfl ?_
    refine g_goto (pc := 64) (tgt := 37) C dX8_feed_64 (by decide) ?_
    refine g_sub (lv' := [(0, .ref (xad X 0)), (2, .long a1), (4, .int (x4 + (-1 : Int32)))]) [1, 2, 0] rfl ?_
    exact hk37 (x4 + (-1 : Int32)) r2

theorem g_X8_feed_h37 {X : gX} (C : gC X cX8_feed RX8 5 (some .int) 1 21) (F : Nat) (a0 : Int32) (a1 : Int64) : ∀ (n : Nat) (x4 : Int32) (M : gM), G X (gQm X rvW rMW) 5 M [(0, .ref (xad X 0)), (2, .long a1), (4, .int x4)] [] 37 (f_X8_feed_h37 F a0 a1 n x4 M) := by
  intro n
  induction n with
  | zero =>
    intro x4 M r hr
    have hr2 : (none : Option (Int32 × gM)) = some r := hr
    cases hr2
  | succ n ih =>
    intro x4 M
    exact g_X8_feed_h37_b C F a0 a1 _ ih x4 M
set_option maxRecDepth 100000 in
set_option maxHeartbeats 4000000 in
theorem c_X8_feed (F : Nat) (a0 : Int32) (a1 : Int64)  (M : gM) : gCt yX8_feed cX8_feed 5 (some .int) 1 21 (fun ad K V => [.ref (ad 0), .int a0, .long a1]) rvW rMW M (f_X8_feed F a0 a1 M) := by
  refine g_met (y := yX8_feed) (by decide +kernel) (fun _ _ _ => Nat.le_of_ble_eq_true rfl) (fun X C => ?_)
  show G X (gQm X rvW rMW) 5 M [(0, .ref (xad X 0)), (1, .int a0), (2, .long a1)] [] 0 (f_X8_feed F a0 a1 M)
  unfold f_X8_feed
  refine g_iload_n (pc := 0) C dX8_feed_0 rfl 1 rfl ?_
  refine g_iconst (pc := 1) C dX8_feed_1 ic_iconst_1 ?_
  refine g_icmp_lt (pc := 2) (tgt := 11) C dX8_feed_2 (by decide) ?_ ?_
  · refine g_ldc (pc := 11) C wk_X8_94 dX8_feed_11 ?_
    exact g_iret (pc := 13) C dX8_feed_13 rfl rfl
  · refine g_iload_n (pc := 5) C dX8_feed_5 rfl 1 rfl ?_
    refine g_bipush (pc := 6) C dX8_feed_6 ic_bipush_8 ?_
    refine g_icmp_le (pc := 8) (tgt := 14) C dX8_feed_8 (by decide) ?_ ?_
    · refine g_aload_n (pc := 14) C dX8_feed_14 rfl 0 rfl ?_
      refine gf_X8_10 (pc := 15) (u := 1) C kd_0 rfl dX8_feed_15 ?_
      refine gf_X8_95 (pc := 18) C kd_1 dX8_feed_18 ?_
      refine g_iload_n (pc := 21) C dX8_feed_21 rfl 1 rfl ?_
      refine g_iadd (pc := 22) C dX8_feed_22 ?_
      refine g_sipush (pc := 23) C dX8_feed_23 ic_sipush_400 ?_
      refine g_icmp_le (pc := 26) (tgt := 32) C dX8_feed_26 (by decide) ?_ ?_
      · refine g_iload_n (pc := 32) C dX8_feed_32 rfl 1 rfl ?_
        refine g_iconst (pc := 33) C dX8_feed_33 ic_iconst_1 ?_
        refine g_isub (pc := 34) C dX8_feed_34 ?_
        refine g_lt (fun v1 => ?_)
        refine g_istore (pc := 35) (lv' := [(4, .int v1), (0, .ref (xad X 0)), (1, .int a0), (2, .long a1)]) C dX8_feed_35 (by decide) rfl ?_
        refine g_sub (lv' := [(0, .ref (xad X 0)), (2, .long a1), (4, .int v1)]) [1, 3, 0] rfl ?_
        exact g_X8_feed_h37 C F a0 a1 F v1 M
      · refine g_ldc (pc := 29) C wk_X8_98 dX8_feed_29 ?_
        exact g_iret (pc := 31) C dX8_feed_31 rfl rfl
    · refine g_ldc (pc := 11) C wk_X8_94 dX8_feed_11 ?_
      exact g_iret (pc := 13) C dX8_feed_13 rfl rfl

/-! X8_imageAt -/
set_option maxRecDepth 100000 in
set_option maxHeartbeats 4000000 in
theorem c_X8_imageAt (a0 : Int32)  (M : gM) : gCt yX8_imageAt cX8_imageAt 2 (some (.object "RentedLooks$State")) 0 0 (fun ad K V => [.ref (ad 0), .int a0]) rvA (rMR M) M (f_X8_imageAt a0 M) := by
  refine g_met (y := yX8_imageAt) (by decide +kernel) (fun _ _ _ => Nat.le_of_ble_eq_true rfl) (fun X C => ?_)
  show G X (gQm X rvA (rMR M)) 2 M [(0, .ref (xad X 0)), (1, .int a0)] [] 0 (f_X8_imageAt a0 M)
  unfold f_X8_imageAt
  refine g_iload_n (pc := 0) C dX8_imageAt_0 rfl 1 rfl ?_
  refine g_if_ne (pc := 1) (tgt := 11) C dX8_imageAt_1 (by decide) ?_ ?_
  · refine g_aload_n (pc := 11) C dX8_imageAt_11 rfl 0 rfl ?_
    refine gf_X8_45 (pc := 12) (u := 34) C kd_0 rfl dX8_imageAt_12 ?_
    exact g_aret (pc := 15) C (Or.inl ⟨_, rfl⟩) dX8_imageAt_15 rfl rfl
  · refine g_aload_n (pc := 4) C dX8_imageAt_4 rfl 0 rfl ?_
    refine gf_X8_42 (pc := 5) (u := 30) C kd_0 rfl dX8_imageAt_5 ?_
    refine g_goto (pc := 8) (tgt := 15) C dX8_imageAt_8 (by decide) ?_
    exact g_aret (pc := 15) C (Or.inl ⟨_, rfl⟩) dX8_imageAt_15 rfl rfl

/-! X8_goBack -/
set_option maxRecDepth 100000 in
set_option maxHeartbeats 4000000 in
theorem c_X8_goBack (F : Nat) (a0 : Int32)  (M : gM) : gCt yX8_goBack cX8_goBack 2 (some .int) 3 63 (fun ad K V => [.ref (ad 0), .int a0]) rvW rMW M (f_X8_goBack F a0 M) := by
  refine g_met (y := yX8_goBack) (by decide +kernel) (fun _ _ _ => Nat.le_of_ble_eq_true rfl) (fun X C => ?_)
  show G X (gQm X rvW rMW) 2 M [(0, .ref (xad X 0)), (1, .int a0)] [] 0 (f_X8_goBack F a0 M)
  unfold f_X8_goBack
  refine g_iload_n (pc := 0) C dX8_goBack_0 rfl 1 rfl ?_
  refine g_if_lt (pc := 1) (tgt := 9) C dX8_goBack_1 (by decide) ?_ ?_
  · refine g_ldc (pc := 9) C wk_X8_150 dX8_goBack_9 ?_
    exact g_iret (pc := 11) C dX8_goBack_11 rfl rfl
  · refine g_iload_n (pc := 4) C dX8_goBack_4 rfl 1 rfl ?_
    refine g_iconst (pc := 5) C dX8_goBack_5 ic_iconst_2 ?_
    refine g_icmp_lt (pc := 6) (tgt := 12) C dX8_goBack_6 (by decide) ?_ ?_
    · refine g_aload_n (pc := 12) C dX8_goBack_12 rfl 0 rfl ?_
      refine gf_X8_48 (pc := 13) (u := 38) C kd_0 rfl dX8_goBack_13 ?_
      refine g_iload_n (pc := 16) C dX8_goBack_16 rfl 1 rfl ?_
      refine g_zald (pc := 17) C kd_38 dX8_goBack_17 ?_
      refine g_if_ne (pc := 18) (tgt := 25) C dX8_goBack_18 (by decide) ?_ ?_
      · refine g_aload_n (pc := 25) C dX8_goBack_25 rfl 0 rfl ?_
        refine gf_X8_38 (pc := 26) (u := 26) C kd_0 rfl dX8_goBack_26 ?_
        refine g_aload_n (pc := 29) C dX8_goBack_29 rfl 0 rfl ?_
        refine g_iload_n (pc := 30) C dX8_goBack_30 rfl 1 rfl ?_
        refine g_callA (pc := 31) C (g_runV (stk := [.ref (xad X 26)]) C (c_X8_imageAt a0 M) rfl rfl rfl kd_0 rfl wC_X8_imageAt wI_X8_imageAt wV_X8_imageAt wi_X8 wm_X8_283 hy_X8_imageAt (by decide) (Nat.le_of_ble_eq_true rfl) dX8_goBack_31) (fun r1 => ?_)
        refine g_ckh (fun hk2 => ?_)
        refine g_callV (pc := 34) C (g_runVN (stk := []) C (c_X5_copyFrom F 26 r1 kd_26 (of_decide_eq_true hk2) M) rfl rfl rfl kd_26 rfl wC_X5_copyFrom wI_X5_copyFrom wV_X5_copyFrom wi_X5 wnm_X8_287 hy_X5_copyFrom (by decide) (Nat.le_of_ble_eq_true rfl) dX8_goBack_34) (fun r3 => ?_)
        refine g_iconst (pc := 37) C dX8_goBack_37 ic_iconst_1 ?_
        exact g_iret (pc := 38) C dX8_goBack_38 rfl rfl
      · refine g_ldcw (pc := 21) C wk_X8_290 dX8_goBack_21 ?_
        exact g_iret (pc := 24) C dX8_goBack_24 rfl rfl
    · refine g_ldc (pc := 9) C wk_X8_150 dX8_goBack_9 ?_
      exact g_iret (pc := 11) C dX8_goBack_11 rfl rfl

/-! X8_grow -/
set_option maxRecDepth 100000 in
set_option maxHeartbeats 4000000 in
theorem g_X8_grow_h37_b {X : gX} (C : gC X cX8_grow RX8 8 (some .int) 3 68) (F : Nat) (a0 : Int32) (M : gM) (k22 : Int32 → Int32 → Int32 → Int32 → Option Int32) (hk22 : ∀ (x2 : Int32) (x3 : Int32) (x4 : Int32) (x5 : Int32), G X (gQm X rvR (rMR M)) 8 M [(0, .ref (xad X 0)), (1, .int a0), (2, .int x2), (3, .int x3), (4, .int x4), (5, .int x5)] [] 22 (k22 x2 x3 x4 x5)) (k37 : Int32 → Int32 → Int32 → Int32 → Int32 → Option Int32) (hk37 : ∀ (x2 : Int32) (x3 : Int32) (x4 : Int32) (x5 : Int32) (x6 : Int32), G X (gQm X rvR (rMR M)) 8 M [(0, .ref (xad X 0)), (1, .int a0), (2, .int x2), (3, .int x3), (4, .int x4), (5, .int x5), (6, .int x6)] [] 37 (k37 x2 x3 x4 x5 x6)) (x2 : Int32) (x3 : Int32) (x4 : Int32) (x5 : Int32) (x6 : Int32) : G X (gQm X rvR (rMR M)) 8 M [(0, .ref (xad X 0)), (1, .int a0), (2, .int x2), (3, .int x3), (4, .int x4), (5, .int x5), (6, .int x6)] [] 37 (f_X8_grow_h37_b F a0 M k22 k37 x2 x3 x4 x5 x6) := by
  unfold f_X8_grow_h37_b
  refine g_iload (pc := 37) C dX8_grow_37 6 rfl ?_
  refine g_bipush (pc := 39) C dX8_grow_39 ic_bipush_9 ?_
  refine g_icmp_gt (pc := 41) (tgt := 83) C dX8_grow_41 (by decide) ?_ ?_
  · refine g_iinc (pc := 83) (j := 5) (lv' := [(5, .int (x5 + (1 : Int32))), (0, .ref (xad X 0)), (1, .int a0), (2, .int x2), (3, .int x3), (4, .int x4), (6, .int x6)]) C dX8_grow_83 rfl (ii_1 _) (by decide) rfl ?_
    refine g_goto (pc := 86) (tgt := 22) C dX8_grow_86 (by decide) ?_
    refine g_sub (lv' := [(0, .ref (xad X 0)), (1, .int a0), (2, .int x2), (3, .int x3), (4, .int x4), (5, .int (x5 + (1 : Int32)))]) [1, 2, 3, 4, 5, 0] rfl ?_
    exact hk22 x2 x3 x4 (x5 + (1 : Int32))
  · refine g_aload_n (pc := 44) C dX8_grow_44 rfl 0 rfl ?_
    refine gf_X8_57 (pc := 45) (u := 39) C kd_0 rfl dX8_grow_45 ?_
    refine g_iload (pc := 48) C dX8_grow_48 5 rfl ?_
    refine g_iload (pc := 50) C dX8_grow_50 6 rfl ?_
    refine g_callR (pc := 52) C (g_runVN (stk := []) C (c_X2_widthsIf F x5 x6 M) rfl rfl rfl kd_39 rfl wC_X2_widthsIf wI_X2_widthsIf wV_X2_widthsIf wi_X2 wnm_X8_142 hy_X2_widthsIf (by decide) (Nat.le_of_ble_eq_true rfl) dX8_grow_52) (fun r1 => ?_)
    refine g_callR (pc := 55) C (g_runS (stk := []) C (c_J6_bitCount_0f7a4 r1 M) rfl rfl rfl wC_J6_bitCount_0f7a4 wS_J6_bitCount_0f7a4 wi_J6 wm_X8_230 hy_J6_bitCount_0f7a4 (by decide) (Nat.le_of_ble_eq_true rfl) dX8_grow_55) (fun r2 => ?_)
    refine g_istore (pc := 58) (lv' := [(7, .int r2), (0, .ref (xad X 0)), (1, .int a0), (2, .int x2), (3, .int x3), (4, .int x4), (5, .int x5), (6, .int x6)]) C dX8_grow_58 (by decide) rfl ?_
    refine g_iload (pc := 60) C dX8_grow_60 0 rfl ?_
    refine g_iload (pc := 62) C dX8_grow_62 5 rfl ?_
    refine g_icmp_le (pc := 64) (tgt := 77) C dX8_grow_64 (by decide) ?_ ?_
    · refine g_iinc (pc := 77) (j := 7) (lv' := [(6, .int (x6 + (1 : Int32))), (7, .int r2), (0, .ref (xad X 0)), (1, .int a0), (2, .int x2), (3, .int x3), (4, .int x4), (5, .int x5)]) C dX8_grow_77 rfl (ii_1 _) (by decide) rfl ?_
      refine g_goto (pc := 80) (tgt := 37) C dX8_grow_80 (by decide) ?_
      refine g_sub (lv' := [(0, .ref (xad X 0)), (1, .int a0), (2, .int x2), (3, .int x3), (4, .int x4), (5, .int x5), (6, .int (x6 + (1 : Int32)))]) [2, 3, 4, 5, 6, 7, 0] rfl ?_
      exact hk37 x2 x3 x4 x5 (x6 + (1 : Int32))
    · refine g_iload (pc := 67) C dX8_grow_67 0 rfl ?_
      refine g_istore (pc := 69) (lv' := [(4, .int r2), (7, .int r2), (0, .ref (xad X 0)), (1, .int a0), (2, .int x2), (3, .int x3), (5, .int x5), (6, .int x6)]) C dX8_grow_69 (by decide) rfl ?_
      refine g_iload (pc := 71) C dX8_grow_71 6 rfl ?_
      refine g_istore_n (pc := 73) (lv' := [(2, .int x5), (4, .int r2), (7, .int r2), (0, .ref (xad X 0)), (1, .int a0), (3, .int x3), (5, .int x5), (6, .int x6)]) C dX8_grow_73 rfl (by decide) rfl ?_
      refine g_iload (pc := 74) C dX8_grow_74 7 rfl ?_
      refine g_istore_n (pc := 76) (lv' := [(3, .int x6), (2, .int x5), (4, .int r2), (7, .int r2), (0, .ref (xad X 0)), (1, .int a0), (5, .int x5), (6, .int x6)]) C dX8_grow_76 rfl (by decide) rfl ?_
      refine g_iinc (pc := 77) (j := 7) (lv' := [(6, .int (x6 + (1 : Int32))), (3, .int x6), (2, .int x5), (4, .int r2), (7, .int r2), (0, .ref (xad X 0)), (1, .int a0), (5, .int x5)]) C dX8_grow_77 rfl (ii_1 _) (by decide) rfl ?_
      refine g_goto (pc := 80) (tgt := 37) C dX8_grow_80 (by decide) ?_
      refine g_sub (lv' := [(0, .ref (xad X 0)), (1, .int a0), (2, .int x5), (3, .int x6), (4, .int r2), (5, .int x5), (6, .int (x6 + (1 : Int32)))]) [5, 6, 2, 1, 3, 7, 0] rfl ?_
      exact hk37 x5 x6 r2 x5 (x6 + (1 : Int32))

theorem g_X8_grow_h37 {X : gX} (C : gC X cX8_grow RX8 8 (some .int) 3 68) (F : Nat) (a0 : Int32) (M : gM) (k22 : Int32 → Int32 → Int32 → Int32 → Option Int32) (hk22 : ∀ (x2 : Int32) (x3 : Int32) (x4 : Int32) (x5 : Int32), G X (gQm X rvR (rMR M)) 8 M [(0, .ref (xad X 0)), (1, .int a0), (2, .int x2), (3, .int x3), (4, .int x4), (5, .int x5)] [] 22 (k22 x2 x3 x4 x5)) : ∀ (n : Nat) (x2 : Int32) (x3 : Int32) (x4 : Int32) (x5 : Int32) (x6 : Int32), G X (gQm X rvR (rMR M)) 8 M [(0, .ref (xad X 0)), (1, .int a0), (2, .int x2), (3, .int x3), (4, .int x4), (5, .int x5), (6, .int x6)] [] 37 (f_X8_grow_h37 F a0 M k22 n x2 x3 x4 x5 x6) := by
  intro n
  induction n with
  | zero =>
    intro x2 x3 x4 x5 x6 r hr
    have hr2 : (none : Option Int32) = some r := hr
    cases hr2
  | succ n ih =>
    intro x2 x3 x4 x5 x6
    exact g_X8_grow_h37_b C F a0 M k22 hk22 _ ih x2 x3 x4 x5 x6
set_option maxRecDepth 100000 in
set_option maxHeartbeats 4000000 in
theorem g_X8_grow_h22_b {X : gX} (C : gC X cX8_grow RX8 8 (some .int) 3 68) (F : Nat) (a0 : Int32) (M : gM) (k22 : Int32 → Int32 → Int32 → Int32 → Option Int32) (hk22 : ∀ (x2 : Int32) (x3 : Int32) (x4 : Int32) (x5 : Int32), G X (gQm X rvR (rMR M)) 8 M [(0, .ref (xad X 0)), (1, .int a0), (2, .int x2), (3, .int x3), (4, .int x4), (5, .int x5)] [] 22 (k22 x2 x3 x4 x5)) (x2 : Int32) (x3 : Int32) (x4 : Int32) (x5 : Int32) : G X (gQm X rvR (rMR M)) 8 M [(0, .ref (xad X 0)), (1, .int a0), (2, .int x2), (3, .int x3), (4, .int x4), (5, .int x5)] [] 22 (f_X8_grow_h22_b F a0 M k22 x2 x3 x4 x5) := by
  unfold f_X8_grow_h22_b
  refine g_iload (pc := 22) C dX8_grow_22 5 rfl ?_
  refine g_aload_n (pc := 24) C dX8_grow_24 rfl 0 rfl ?_
  refine gf_X8_19 (pc := 25) (u := 3) C kd_0 rfl dX8_grow_25 ?_
  refine gf_X8_123 (pc := 28) C kd_3 dX8_grow_28 ?_
  refine g_icmp_ge (pc := 31) (tgt := 89) C dX8_grow_31 (by decide) ?_ ?_
  · refine g_iload_n (pc := 89) C dX8_grow_89 rfl 1 rfl ?_
    refine g_if_ne (pc := 90) (tgt := 97) C dX8_grow_90 (by decide) ?_ ?_
    · refine g_iload_n (pc := 97) C dX8_grow_97 rfl 1 rfl ?_
      refine g_iconst (pc := 98) C dX8_grow_98 ic_iconst_1 ?_
      refine g_icmp_ne (pc := 99) (tgt := 106) C dX8_grow_99 (by decide) ?_ ?_
      · refine g_iload (pc := 106) C dX8_grow_106 4 rfl ?_
        exact g_iret (pc := 108) C dX8_grow_108 rfl rfl
      · refine g_iload_n (pc := 102) C dX8_grow_102 rfl 3 rfl ?_
        refine g_goto (pc := 103) (tgt := 108) C dX8_grow_103 (by decide) ?_
        exact g_iret (pc := 108) C dX8_grow_108 rfl rfl
    · refine g_iload_n (pc := 93) C dX8_grow_93 rfl 2 rfl ?_
      refine g_goto (pc := 94) (tgt := 108) C dX8_grow_94 (by decide) ?_
      exact g_iret (pc := 108) C dX8_grow_108 rfl rfl
  · refine g_iconst (pc := 34) C dX8_grow_34 ic_iconst_0 ?_
    refine g_istore (pc := 35) (lv' := [(6, .int (0 : Int32)), (0, .ref (xad X 0)), (1, .int a0), (2, .int x2), (3, .int x3), (4, .int x4), (5, .int x5)]) C dX8_grow_35 (by decide) rfl ?_
    refine g_sub (lv' := [(0, .ref (xad X 0)), (1, .int a0), (2, .int x2), (3, .int x3), (4, .int x4), (5, .int x5), (6, .int (0 : Int32))]) [1, 2, 3, 4, 5, 6, 0] rfl ?_
    exact g_X8_grow_h37 C F a0 M k22 hk22 F x2 x3 x4 x5 (0 : Int32)

theorem g_X8_grow_h22 {X : gX} (C : gC X cX8_grow RX8 8 (some .int) 3 68) (F : Nat) (a0 : Int32) (M : gM) : ∀ (n : Nat) (x2 : Int32) (x3 : Int32) (x4 : Int32) (x5 : Int32), G X (gQm X rvR (rMR M)) 8 M [(0, .ref (xad X 0)), (1, .int a0), (2, .int x2), (3, .int x3), (4, .int x4), (5, .int x5)] [] 22 (f_X8_grow_h22 F a0 M n x2 x3 x4 x5) := by
  intro n
  induction n with
  | zero =>
    intro x2 x3 x4 x5 r hr
    have hr2 : (none : Option Int32) = some r := hr
    cases hr2
  | succ n ih =>
    intro x2 x3 x4 x5
    exact g_X8_grow_h22_b C F a0 M _ ih x2 x3 x4 x5
set_option maxRecDepth 100000 in
set_option maxHeartbeats 4000000 in
theorem c_X8_grow (F : Nat) (a0 : Int32)  (M : gM) : gCt yX8_grow cX8_grow 8 (some .int) 3 68 (fun ad K V => [.ref (ad 0), .int a0]) rvR (rMR M) M (f_X8_grow F a0 M) := by
  refine g_met (y := yX8_grow) (by decide +kernel) (fun _ _ _ => Nat.le_of_ble_eq_true rfl) (fun X C => ?_)
  show G X (gQm X rvR (rMR M)) 8 M [(0, .ref (xad X 0)), (1, .int a0)] [] 0 (f_X8_grow F a0 M)
  unfold f_X8_grow
  refine g_iload_n (pc := 0) C dX8_grow_0 rfl 1 rfl ?_
  refine g_if_lt (pc := 1) (tgt := 9) C dX8_grow_1 (by decide) ?_ ?_
  · refine g_ldc (pc := 9) C wk_X8_94 dX8_grow_9 ?_
    exact g_iret (pc := 11) C dX8_grow_11 rfl rfl
  · refine g_iload_n (pc := 4) C dX8_grow_4 rfl 1 rfl ?_
    refine g_iconst (pc := 5) C dX8_grow_5 ic_iconst_2 ?_
    refine g_icmp_le (pc := 6) (tgt := 12) C dX8_grow_6 (by decide) ?_ ?_
    · refine g_iconst (pc := 12) C dX8_grow_12 ic_iconst_m1 ?_
      refine g_istore_n (pc := 13) (lv' := [(2, .int (-1 : Int32)), (0, .ref (xad X 0)), (1, .int a0)]) C dX8_grow_13 rfl (by decide) rfl ?_
      refine g_iconst (pc := 14) C dX8_grow_14 ic_iconst_m1 ?_
      refine g_istore_n (pc := 15) (lv' := [(3, .int (-1 : Int32)), (2, .int (-1 : Int32)), (0, .ref (xad X 0)), (1, .int a0)]) C dX8_grow_15 rfl (by decide) rfl ?_
      refine g_iconst (pc := 16) C dX8_grow_16 ic_iconst_m1 ?_
      refine g_istore (pc := 17) (lv' := [(4, .int (-1 : Int32)), (3, .int (-1 : Int32)), (2, .int (-1 : Int32)), (0, .ref (xad X 0)), (1, .int a0)]) C dX8_grow_17 (by decide) rfl ?_
      refine g_iconst (pc := 19) C dX8_grow_19 ic_iconst_0 ?_
      refine g_istore (pc := 20) (lv' := [(5, .int (0 : Int32)), (4, .int (-1 : Int32)), (3, .int (-1 : Int32)), (2, .int (-1 : Int32)), (0, .ref (xad X 0)), (1, .int a0)]) C dX8_grow_20 (by decide) rfl ?_
      refine g_sub (lv' := [(0, .ref (xad X 0)), (1, .int a0), (2, .int (-1 : Int32)), (3, .int (-1 : Int32)), (4, .int (-1 : Int32)), (5, .int (0 : Int32))]) [4, 5, 3, 2, 1, 0] rfl ?_
      exact g_X8_grow_h22 C F a0 M F (-1 : Int32) (-1 : Int32) (-1 : Int32) (0 : Int32)
    · refine g_ldc (pc := 9) C wk_X8_94 dX8_grow_9 ?_
      exact g_iret (pc := 11) C dX8_grow_11 rfl rfl

/-! X8_isHour -/
set_option maxRecDepth 100000 in
set_option maxHeartbeats 4000000 in
theorem c_X8_isHour (a0 : Int32)  (M : gM) : gCt yX8_isHour cX8_isHour 1 (some .boolean) 0 0 (fun ad K V => [.int a0]) rvR (rMR M) M (f_X8_isHour a0 M) := by
  refine g_met (y := yX8_isHour) (by decide +kernel) (fun _ _ _ => Nat.le_of_ble_eq_true rfl) (fun X C => ?_)
  show G X (gQm X rvR (rMR M)) 1 M [(0, .int a0)] [] 0 (f_X8_isHour a0 M)
  unfold f_X8_isHour
  refine g_iload_n (pc := 0) C dX8_isHour_0 rfl 0 rfl ?_
  refine g_if_lt (pc := 1) (tgt := 14) C dX8_isHour_1 (by decide) ?_ ?_
  · refine g_iconst (pc := 14) C dX8_isHour_14 ic_iconst_0 ?_
    exact g_zretk (pc := 15) C rfl dX8_isHour_15 rfl rfl
  · refine g_iload_n (pc := 4) C dX8_isHour_4 rfl 0 rfl ?_
    refine g_bipush (pc := 5) C dX8_isHour_5 ic_bipush_12 ?_
    refine g_icmp_ge (pc := 7) (tgt := 14) C dX8_isHour_7 (by decide) ?_ ?_
    · refine g_iconst (pc := 14) C dX8_isHour_14 ic_iconst_0 ?_
      exact g_zretk (pc := 15) C rfl dX8_isHour_15 rfl rfl
    · refine g_iconst (pc := 10) C dX8_isHour_10 ic_iconst_1 ?_
      refine g_goto (pc := 11) (tgt := 15) C dX8_isHour_11 (by decide) ?_
      exact g_zretk (pc := 15) C rfl dX8_isHour_15 rfl rfl

/-! X8_isLandlord -/
set_option maxRecDepth 100000 in
set_option maxHeartbeats 4000000 in
theorem c_X8_isLandlord (a0 : Int32)  (M : gM) : gCt yX8_isLandlord cX8_isLandlord 1 (some .boolean) 0 0 (fun ad K V => [.int a0]) rvR (rMR M) M (f_X8_isLandlord a0 M) := by
  refine g_met (y := yX8_isLandlord) (by decide +kernel) (fun _ _ _ => Nat.le_of_ble_eq_true rfl) (fun X C => ?_)
  show G X (gQm X rvR (rMR M)) 1 M [(0, .int a0)] [] 0 (f_X8_isLandlord a0 M)
  unfold f_X8_isLandlord
  refine g_iload_n (pc := 0) C dX8_isLandlord_0 rfl 0 rfl ?_
  refine g_if_lt (pc := 1) (tgt := 13) C dX8_isLandlord_1 (by decide) ?_ ?_
  · refine g_iconst (pc := 13) C dX8_isLandlord_13 ic_iconst_0 ?_
    exact g_zretk (pc := 14) C rfl dX8_isLandlord_14 rfl rfl
  · refine g_iload_n (pc := 4) C dX8_isLandlord_4 rfl 0 rfl ?_
    refine g_iconst (pc := 5) C dX8_isLandlord_5 ic_iconst_4 ?_
    refine g_icmp_ge (pc := 6) (tgt := 13) C dX8_isLandlord_6 (by decide) ?_ ?_
    · refine g_iconst (pc := 13) C dX8_isLandlord_13 ic_iconst_0 ?_
      exact g_zretk (pc := 14) C rfl dX8_isLandlord_14 rfl rfl
    · refine g_iconst (pc := 9) C dX8_isLandlord_9 ic_iconst_1 ?_
      refine g_goto (pc := 10) (tgt := 14) C dX8_isLandlord_10 (by decide) ?_
      exact g_zretk (pc := 14) C rfl dX8_isLandlord_14 rfl rfl

/-! X8_judge -/
set_option maxRecDepth 100000 in
set_option maxHeartbeats 4000000 in
theorem c_X8_judge (F : Nat)  (M : gM) : gCt yX8_judge cX8_judge 1 (some .int) 3 65 (fun ad K V => [.ref (ad 0)]) rvR (rMR M) M (f_X8_judge F M) := by
  refine g_met (y := yX8_judge) (by decide +kernel) (fun _ _ _ => Nat.le_of_ble_eq_true rfl) (fun X C => ?_)
  show G X (gQm X rvR (rMR M)) 1 M [(0, .ref (xad X 0))] [] 0 (f_X8_judge F M)
  unfold f_X8_judge
  refine g_aload_n (pc := 0) C dX8_judge_0 rfl 0 rfl ?_
  refine gf_X8_82 (pc := 1) (u := 91) C kd_0 rfl dX8_judge_1 ?_
  refine g_aload_n (pc := 4) C dX8_judge_4 rfl 0 rfl ?_
  refine gf_X8_38 (pc := 5) (u := 26) C kd_0 rfl dX8_judge_5 ?_
  refine gf_X8_132 (pc := 8) C kd_26 dX8_judge_8 ?_
  refine g_callR (pc := 11) C (g_runVN (stk := []) C (c_X0_firstWrong F (M 26 5) M) rfl rfl rfl kd_91 rfl wC_X0_firstWrong wI_X0_firstWrong wV_X0_firstWrong wi_X0 wnm_X8_277 hy_X0_firstWrong (by decide) (Nat.le_of_ble_eq_true rfl) dX8_judge_11) (fun r1 => ?_)
  exact g_iret (pc := 14) C dX8_judge_14 rfl rfl

/-! X8_keep -/
set_option maxRecDepth 100000 in
set_option maxHeartbeats 4000000 in
theorem c_X8_keep (F : Nat) (a0 : Int32)  (M : gM) : gCt yX8_keep cX8_keep 2 (some .int) 3 63 (fun ad K V => [.ref (ad 0), .int a0]) rvW rMW M (f_X8_keep F a0 M) := by
  refine g_met (y := yX8_keep) (by decide +kernel) (fun _ _ _ => Nat.le_of_ble_eq_true rfl) (fun X C => ?_)
  show G X (gQm X rvW rMW) 2 M [(0, .ref (xad X 0)), (1, .int a0)] [] 0 (f_X8_keep F a0 M)
  unfold f_X8_keep
  refine g_iload_n (pc := 0) C dX8_keep_0 rfl 1 rfl ?_
  refine g_if_lt (pc := 1) (tgt := 9) C dX8_keep_1 (by decide) ?_ ?_
  · refine g_ldc (pc := 9) C wk_X8_150 dX8_keep_9 ?_
    exact g_iret (pc := 11) C dX8_keep_11 rfl rfl
  · refine g_iload_n (pc := 4) C dX8_keep_4 rfl 1 rfl ?_
    refine g_iconst (pc := 5) C dX8_keep_5 ic_iconst_2 ?_
    refine g_icmp_lt (pc := 6) (tgt := 12) C dX8_keep_6 (by decide) ?_ ?_
    · refine g_aload_n (pc := 12) C dX8_keep_12 rfl 0 rfl ?_
      refine g_iload_n (pc := 13) C dX8_keep_13 rfl 1 rfl ?_
      refine g_callA (pc := 14) C (g_runV (stk := []) C (c_X8_imageAt a0 M) rfl rfl rfl kd_0 rfl wC_X8_imageAt wI_X8_imageAt wV_X8_imageAt wi_X8 wm_X8_283 hy_X8_imageAt (by decide) (Nat.le_of_ble_eq_true rfl) dX8_keep_14) (fun r1 => ?_)
      refine g_ckh (fun hk2 => ?_)
      refine g_aload_n (pc := 17) C dX8_keep_17 rfl 0 rfl ?_
      refine gf_X8_38 (pc := 18) (u := 26) C kd_0 rfl dX8_keep_18 ?_
      refine g_callV (pc := 21) C (g_runVN (stk := []) C (c_X5_copyFrom F r1 26 (of_decide_eq_true hk2) kd_26 M) rfl rfl rfl (of_decide_eq_true hk2) rfl wC_X5_copyFrom wI_X5_copyFrom wV_X5_copyFrom wi_X5 wnm_X8_287 hy_X5_copyFrom (by decide) (Nat.le_of_ble_eq_true rfl) dX8_keep_21) (fun r3 => ?_)
      refine g_aload_n (pc := 24) C dX8_keep_24 rfl 0 rfl ?_
      refine gf_X8_48 (pc := 25) (u := 38) C kd_0 rfl dX8_keep_25 ?_
      refine g_iload_n (pc := 28) C dX8_keep_28 rfl 1 rfl ?_
      refine g_iconst (pc := 29) C dX8_keep_29 ic_iconst_1 ?_
      refine g_zast (pc := 30) C kd_38 dX8_keep_30 ?_
      refine g_ltM (fun M4 => ?_)
      refine g_iconst (pc := 31) C dX8_keep_31 ic_iconst_1 ?_
      exact g_iret (pc := 32) C dX8_keep_32 rfl rfl
    · refine g_ldc (pc := 9) C wk_X8_150 dX8_keep_9 ?_
      exact g_iret (pc := 11) C dX8_keep_11 rfl rfl

/-! X8_law -/
set_option maxRecDepth 100000 in
set_option maxHeartbeats 4000000 in
theorem c_X8_law (a0 : Int32)  (M : gM) : gCt yX8_law cX8_law 3 (some .int) 0 0 (fun ad K V => [.ref (ad 0), .int a0]) rvW rMW M (f_X8_law a0 M) := by
  refine g_met (y := yX8_law) (by decide +kernel) (fun _ _ _ => Nat.le_of_ble_eq_true rfl) (fun X C => ?_)
  show G X (gQm X rvW rMW) 3 M [(0, .ref (xad X 0)), (1, .int a0)] [] 0 (f_X8_law a0 M)
  unfold f_X8_law
  refine g_iload_n (pc := 0) C dX8_law_0 rfl 1 rfl ?_
  refine g_if_lt (pc := 1) (tgt := 9) C dX8_law_1 (by decide) ?_ ?_
  · refine g_ldc (pc := 9) C wk_X8_94 dX8_law_9 ?_
    exact g_iret (pc := 11) C dX8_law_11 rfl rfl
  · refine g_iload_n (pc := 4) C dX8_law_4 rfl 1 rfl ?_
    refine g_iconst (pc := 5) C dX8_law_5 ic_iconst_1 ?_
    refine g_icmp_le (pc := 6) (tgt := 12) C dX8_law_6 (by decide) ?_ ?_
    · refine g_aload_n (pc := 12) C dX8_law_12 rfl 0 rfl ?_
      refine gf_X8_38 (pc := 13) (u := 26) C kd_0 rfl dX8_law_13 ?_
      refine gf_X8_132 (pc := 16) C kd_26 dX8_law_16 ?_
      refine g_lt (fun v1 => ?_)
      refine g_istore_n (pc := 19) (lv' := [(2, .int v1), (0, .ref (xad X 0)), (1, .int a0)]) C dX8_law_19 rfl (by decide) rfl ?_
      refine g_aload_n (pc := 20) C dX8_law_20 rfl 1 rfl ?_
      refine gf_X8_38 (pc := 21) (u := 26) C kd_0 rfl dX8_law_21 ?_
      refine g_iload_n (pc := 24) C dX8_law_24 rfl 2 rfl ?_
      refine gp_X8_132 (pc := 25) C kd_26 dX8_law_25 ?_
      refine g_ltM (fun M2 => ?_)
      refine g_iload_n (pc := 28) C dX8_law_28 rfl 0 rfl ?_
      exact g_iret (pc := 29) C dX8_law_29 rfl rfl
    · refine g_ldc (pc := 9) C wk_X8_94 dX8_law_9 ?_
      exact g_iret (pc := 11) C dX8_law_11 rfl rfl

/-! X8_look -/
set_option maxRecDepth 100000 in
set_option maxHeartbeats 4000000 in
theorem c_X8_look (a0 : Int32) (a1 : Int32)  (M : gM) : gCt yX8_look cX8_look 3 (some .int) 2 43 (fun ad K V => [.ref (ad 0), .int a0, .int a1]) rvR (rMR M) M (f_X8_look a0 a1 M) := by
  refine g_met (y := yX8_look) (by decide +kernel) (fun _ _ _ => Nat.le_of_ble_eq_true rfl) (fun X C => ?_)
  show G X (gQm X rvR (rMR M)) 3 M [(0, .ref (xad X 0)), (1, .int a0), (2, .int a1)] [] 0 (f_X8_look a0 a1 M)
  unfold f_X8_look
  refine g_iload_n (pc := 0) C dX8_look_0 rfl 2 rfl ?_
  refine g_if_lt (pc := 1) (tgt := 9) C dX8_look_1 (by decide) ?_ ?_
  · refine g_ldc (pc := 9) C wk_X8_94 dX8_look_9 ?_
    exact g_iret (pc := 11) C dX8_look_11 rfl rfl
  · refine g_iload_n (pc := 4) C dX8_look_4 rfl 2 rfl ?_
    refine g_iconst (pc := 5) C dX8_look_5 ic_iconst_2 ?_
    refine g_icmp_le (pc := 6) (tgt := 12) C dX8_look_6 (by decide) ?_ ?_
    · refine g_iload_n (pc := 12) C dX8_look_12 rfl 1 rfl ?_
      refine g_if_lt (pc := 13) (tgt := 27) C dX8_look_13 (by decide) ?_ ?_
      · refine g_iconst (pc := 27) C dX8_look_27 ic_iconst_m1 ?_
        exact g_iret (pc := 28) C dX8_look_28 rfl rfl
      · refine g_iload_n (pc := 16) C dX8_look_16 rfl 1 rfl ?_
        refine g_aload_n (pc := 17) C dX8_look_17 rfl 0 rfl ?_
        refine gf_X8_57 (pc := 18) (u := 39) C kd_0 rfl dX8_look_18 ?_
        refine gf_X8_141 (pc := 21) C kd_39 dX8_look_21 ?_
        refine g_icmp_lt (pc := 24) (tgt := 29) C dX8_look_24 (by decide) ?_ ?_
        · refine g_iload_n (pc := 29) C dX8_look_29 rfl 2 rfl ?_
          refine g_if_ne (pc := 30) (tgt := 44) C dX8_look_30 (by decide) ?_ ?_
          · refine g_iload_n (pc := 44) C dX8_look_44 rfl 2 rfl ?_
            refine g_iconst (pc := 45) C dX8_look_45 ic_iconst_1 ?_
            refine g_icmp_ne (pc := 46) (tgt := 60) C dX8_look_46 (by decide) ?_ ?_
            · refine g_aload_n (pc := 60) C dX8_look_60 rfl 0 rfl ?_
              refine gf_X8_57 (pc := 61) (u := 39) C kd_0 rfl dX8_look_61 ?_
              refine g_iload_n (pc := 64) C dX8_look_64 rfl 1 rfl ?_
              refine g_callR (pc := 65) C (g_runVN (stk := []) C (c_X2_priceOf a0 M) rfl rfl rfl kd_39 rfl wC_X2_priceOf wI_X2_priceOf wV_X2_priceOf wi_X2 wnm_X8_194 hy_X2_priceOf (by decide) (Nat.le_of_ble_eq_true rfl) dX8_look_65) (fun r1 => ?_)
              exact g_iret (pc := 68) C dX8_look_68 rfl rfl
            · refine g_aload_n (pc := 49) C dX8_look_49 rfl 0 rfl ?_
              refine gf_X8_57 (pc := 50) (u := 39) C kd_0 rfl dX8_look_50 ?_
              refine g_iload_n (pc := 53) C dX8_look_53 rfl 1 rfl ?_
              refine g_callR (pc := 54) C (g_runVN (stk := []) C (c_X2_widthOf a0 M) rfl rfl rfl kd_39 rfl wC_X2_widthOf wI_X2_widthOf wV_X2_widthOf wi_X2 wnm_X8_191 hy_X2_widthOf (by decide) (Nat.le_of_ble_eq_true rfl) dX8_look_54) (fun r2 => ?_)
              refine g_goto (pc := 57) (tgt := 68) C dX8_look_57 (by decide) ?_
              exact g_iret (pc := 68) C dX8_look_68 rfl rfl
          · refine g_aload_n (pc := 33) C dX8_look_33 rfl 0 rfl ?_
            refine gf_X8_57 (pc := 34) (u := 39) C kd_0 rfl dX8_look_34 ?_
            refine g_iload_n (pc := 37) C dX8_look_37 rfl 1 rfl ?_
            refine g_callR (pc := 38) C (g_runVN (stk := []) C (c_X2_partsOf a0 M) rfl rfl rfl kd_39 rfl wC_X2_partsOf wI_X2_partsOf wV_X2_partsOf wi_X2 wnm_X8_187 hy_X2_partsOf (by decide) (Nat.le_of_ble_eq_true rfl) dX8_look_38) (fun r3 => ?_)
            refine g_goto (pc := 41) (tgt := 68) C dX8_look_41 (by decide) ?_
            exact g_iret (pc := 68) C dX8_look_68 rfl rfl
        · refine g_iconst (pc := 27) C dX8_look_27 ic_iconst_m1 ?_
          exact g_iret (pc := 28) C dX8_look_28 rfl rfl
    · refine g_ldc (pc := 9) C wk_X8_94 dX8_look_9 ?_
      exact g_iret (pc := 11) C dX8_look_11 rfl rfl

/-! X8_part -/
set_option maxRecDepth 100000 in
set_option maxHeartbeats 4000000 in
theorem c_X8_part (a0 : Int32) (a1 : Int32)  (M : gM) : gCt yX8_part cX8_part 3 (some .int) 1 21 (fun ad K V => [.ref (ad 0), .int a0, .int a1]) rvR (rMR M) M (f_X8_part a0 a1 M) := by
  refine g_met (y := yX8_part) (by decide +kernel) (fun _ _ _ => Nat.le_of_ble_eq_true rfl) (fun X C => ?_)
  show G X (gQm X rvR (rMR M)) 3 M [(0, .ref (xad X 0)), (1, .int a0), (2, .int a1)] [] 0 (f_X8_part a0 a1 M)
  unfold f_X8_part
  refine g_aload_n (pc := 0) C dX8_part_0 rfl 0 rfl ?_
  refine gf_X8_19 (pc := 1) (u := 3) C kd_0 rfl dX8_part_1 ?_
  refine g_iload_n (pc := 4) C dX8_part_4 rfl 1 rfl ?_
  refine g_callR (pc := 5) C (g_runVN (stk := []) C (c_X7_hasPart 3 a0 kd_3 M) rfl rfl rfl kd_3 rfl wC_X7_hasPart wI_X7_hasPart wV_X7_hasPart wi_X7 wnm_X8_146 hy_X7_hasPart (by decide) (Nat.le_of_ble_eq_true rfl) dX8_part_5) (fun r1 => ?_)
  refine g_if_ne (pc := 8) (tgt := 14) C dX8_part_8 (by decide) ?_ ?_
  · refine g_iload_n (pc := 14) C dX8_part_14 rfl 2 rfl ?_
    refine g_case (pc := 15) (tgt := 60) (ai := 0) C dX8_part_15 (by decide) (by decide) (by decide) rfl (by decide) ?_ (fun hc2 => ?_)
    · refine g_aload_n (pc := 60) C dX8_part_60 rfl 0 rfl ?_
      refine gf_X8_19 (pc := 61) (u := 3) C kd_0 rfl dX8_part_61 ?_
      refine gf_X8_151 (pc := 64) (u := 4) C kd_3 rfl dX8_part_64 ?_
      refine g_iload_n (pc := 67) C dX8_part_67 rfl 1 rfl ?_
      refine g_iald (pc := 68) C kd_4 dX8_part_68 ?_
      exact g_iret (pc := 69) C dX8_part_69 rfl rfl
    refine g_case (pc := 15) (tgt := 70) (ai := 1) C dX8_part_15 (by decide) (by decide) (by decide) rfl (by decide) ?_ (fun hc3 => ?_)
    · refine g_aload_n (pc := 70) C dX8_part_70 rfl 0 rfl ?_
      refine gf_X8_19 (pc := 71) (u := 3) C kd_0 rfl dX8_part_71 ?_
      refine gf_X8_154 (pc := 74) (u := 5) C kd_3 rfl dX8_part_74 ?_
      refine g_iload_n (pc := 77) C dX8_part_77 rfl 1 rfl ?_
      refine g_iald (pc := 78) C kd_5 dX8_part_78 ?_
      exact g_iret (pc := 79) C dX8_part_79 rfl rfl
    refine g_case (pc := 15) (tgt := 80) (ai := 2) C dX8_part_15 (by decide) (by decide) (by decide) rfl (by decide) ?_ (fun hc4 => ?_)
    · refine g_aload_n (pc := 80) C dX8_part_80 rfl 0 rfl ?_
      refine gf_X8_38 (pc := 81) (u := 26) C kd_0 rfl dX8_part_81 ?_
      refine gf_X8_157 (pc := 84) (u := 27) C kd_26 rfl dX8_part_84 ?_
      refine g_iload_n (pc := 87) C dX8_part_87 rfl 1 rfl ?_
      refine g_iald (pc := 88) C kd_27 dX8_part_88 ?_
      exact g_iret (pc := 89) C dX8_part_89 rfl rfl
    refine g_case (pc := 15) (tgt := 90) (ai := 3) C dX8_part_15 (by decide) (by decide) (by decide) rfl (by decide) ?_ (fun hc5 => ?_)
    · refine g_aload_n (pc := 90) C dX8_part_90 rfl 0 rfl ?_
      refine gf_X8_38 (pc := 91) (u := 26) C kd_0 rfl dX8_part_91 ?_
      refine gf_X8_160 (pc := 94) (u := 28) C kd_26 rfl dX8_part_94 ?_
      refine g_iload_n (pc := 97) C dX8_part_97 rfl 1 rfl ?_
      refine g_iald (pc := 98) C kd_28 dX8_part_98 ?_
      exact g_iret (pc := 99) C dX8_part_99 rfl rfl
    refine g_case (pc := 15) (tgt := 100) (ai := 4) C dX8_part_15 (by decide) (by decide) (by decide) rfl (by decide) ?_ (fun hc6 => ?_)
    · refine g_aload_n (pc := 100) C dX8_part_100 rfl 0 rfl ?_
      refine gf_X8_19 (pc := 101) (u := 3) C kd_0 rfl dX8_part_101 ?_
      refine gf_X8_163 (pc := 104) (u := 8) C kd_3 rfl dX8_part_104 ?_
      refine g_iload_n (pc := 107) C dX8_part_107 rfl 1 rfl ?_
      refine g_iald (pc := 108) C kd_8 dX8_part_108 ?_
      exact g_iret (pc := 109) C dX8_part_109 rfl rfl
    refine g_case (pc := 15) (tgt := 110) (ai := 5) C dX8_part_15 (by decide) (by decide) (by decide) rfl (by decide) ?_ (fun hc7 => ?_)
    · refine g_aload_n (pc := 110) C dX8_part_110 rfl 0 rfl ?_
      refine gf_X8_19 (pc := 111) (u := 3) C kd_0 rfl dX8_part_111 ?_
      refine gf_X8_166 (pc := 114) (u := 9) C kd_3 rfl dX8_part_114 ?_
      refine g_iload_n (pc := 117) C dX8_part_117 rfl 1 rfl ?_
      refine g_iald (pc := 118) C kd_9 dX8_part_118 ?_
      exact g_iret (pc := 119) C dX8_part_119 rfl rfl
    refine g_case (pc := 15) (tgt := 120) (ai := 6) C dX8_part_15 (by decide) (by decide) (by decide) rfl (by decide) ?_ (fun hc8 => ?_)
    · refine g_aload_n (pc := 120) C dX8_part_120 rfl 0 rfl ?_
      refine gf_X8_19 (pc := 121) (u := 3) C kd_0 rfl dX8_part_121 ?_
      refine gf_X8_169 (pc := 124) (u := 10) C kd_3 rfl dX8_part_124 ?_
      refine g_iload_n (pc := 127) C dX8_part_127 rfl 1 rfl ?_
      refine g_iald (pc := 128) C kd_10 dX8_part_128 ?_
      exact g_iret (pc := 129) C dX8_part_129 rfl rfl
    refine g_case (pc := 15) (tgt := 130) (ai := 7) C dX8_part_15 (by decide) (by decide) (by decide) rfl (by decide) ?_ (fun hc9 => ?_)
    · refine g_aload_n (pc := 130) C dX8_part_130 rfl 0 rfl ?_
      refine gf_X8_38 (pc := 131) (u := 26) C kd_0 rfl dX8_part_131 ?_
      refine gf_X8_172 (pc := 134) (u := 29) C kd_26 rfl dX8_part_134 ?_
      refine g_iload_n (pc := 137) C dX8_part_137 rfl 1 rfl ?_
      refine g_iald (pc := 138) C kd_29 dX8_part_138 ?_
      exact g_iret (pc := 139) C dX8_part_139 rfl rfl
    refine g_dflt (pc := 15) (tgt := 140) C dX8_part_15 (by omega) (by decide) ?_
    refine g_ldc (pc := 140) C wk_X8_94 dX8_part_140 ?_
    exact g_iret (pc := 142) C dX8_part_142 rfl rfl
  · refine g_ldc (pc := 11) C wk_X8_150 dX8_part_11 ?_
    exact g_iret (pc := 13) C dX8_part_13 rfl rfl

/-! X8_price -/
set_option maxRecDepth 100000 in
set_option maxHeartbeats 4000000 in
theorem c_X8_price (a0 : Int32) (a1 : Int32)  (M : gM) : gCt yX8_price cX8_price 4 (some .int) 1 21 (fun ad K V => [.ref (ad 0), .int a0, .int a1]) rvW rMW M (f_X8_price a0 a1 M) := by
  refine g_met (y := yX8_price) (by decide +kernel) (fun _ _ _ => Nat.le_of_ble_eq_true rfl) (fun X C => ?_)
  show G X (gQm X rvW rMW) 4 M [(0, .ref (xad X 0)), (1, .int a0), (2, .int a1)] [] 0 (f_X8_price a0 a1 M)
  unfold f_X8_price
  refine g_aload_n (pc := 0) C dX8_price_0 rfl 0 rfl ?_
  refine gf_X8_19 (pc := 1) (u := 3) C kd_0 rfl dX8_price_1 ?_
  refine g_iload_n (pc := 4) C dX8_price_4 rfl 1 rfl ?_
  refine g_callR (pc := 5) C (g_runVN (stk := []) C (c_X7_hasPart 3 a0 kd_3 M) rfl rfl rfl kd_3 rfl wC_X7_hasPart wI_X7_hasPart wV_X7_hasPart wi_X7 wnm_X8_146 hy_X7_hasPart (by decide) (Nat.le_of_ble_eq_true rfl) dX8_price_5) (fun r1 => ?_)
  refine g_if_ne (pc := 8) (tgt := 14) C dX8_price_8 (by decide) ?_ ?_
  · refine g_iload_n (pc := 14) C dX8_price_14 rfl 2 rfl ?_
    refine g_if_lt (pc := 15) (tgt := 24) C dX8_price_15 (by decide) ?_ ?_
    · refine g_ldc (pc := 24) C wk_X8_94 dX8_price_24 ?_
      exact g_iret (pc := 26) C dX8_price_26 rfl rfl
    · refine g_iload_n (pc := 18) C dX8_price_18 rfl 2 rfl ?_
      refine g_bipush (pc := 19) C dX8_price_19 ic_bipush_99 ?_
      refine g_icmp_le (pc := 21) (tgt := 27) C dX8_price_21 (by decide) ?_ ?_
      · refine g_aload_n (pc := 27) C dX8_price_27 rfl 0 rfl ?_
        refine gf_X8_38 (pc := 28) (u := 26) C kd_0 rfl dX8_price_28 ?_
        refine gf_X8_160 (pc := 31) (u := 28) C kd_26 rfl dX8_price_31 ?_
        refine g_iload_n (pc := 34) C dX8_price_34 rfl 1 rfl ?_
        refine g_iald (pc := 35) C kd_28 dX8_price_35 ?_
        refine g_lt (fun v2 => ?_)
        refine g_istore_n (pc := 36) (lv' := [(3, .int v2), (0, .ref (xad X 0)), (1, .int a0), (2, .int a1)]) C dX8_price_36 rfl (by decide) rfl ?_
        refine g_aload_n (pc := 37) C dX8_price_37 rfl 1 rfl ?_
        refine gf_X8_38 (pc := 38) (u := 26) C kd_0 rfl dX8_price_38 ?_
        refine gf_X8_160 (pc := 41) (u := 28) C kd_26 rfl dX8_price_41 ?_
        refine g_iload_n (pc := 44) C dX8_price_44 rfl 2 rfl ?_
        refine g_iload_n (pc := 45) C dX8_price_45 rfl 3 rfl ?_
        refine g_iast (pc := 46) C kd_28 dX8_price_46 ?_
        refine g_ltM (fun M3 => ?_)
        refine g_iload_n (pc := 47) C dX8_price_47 rfl 0 rfl ?_
        exact g_iret (pc := 48) C dX8_price_48 rfl rfl
      · refine g_ldc (pc := 24) C wk_X8_94 dX8_price_24 ?_
        exact g_iret (pc := 26) C dX8_price_26 rfl rfl
  · refine g_ldc (pc := 11) C wk_X8_150 dX8_price_11 ?_
    exact g_iret (pc := 13) C dX8_price_13 rfl rfl

/-! X8_raise -/
set_option maxRecDepth 100000 in
set_option maxHeartbeats 4000000 in
theorem g_X8_raise_h45_b {X : gX} (C : gC X cX8_raise RX8 8 (some .int) 4 95) (F : Nat) (a0 : Int32) (a1 : Int32) (k45 : Int32 → Int32 → Int32 → Int32 → gM → Option (Int32 × gM)) (hk45 : ∀ (x3 : Int32) (x4 : Int32) (x5 : Int32) (x6 : Int32) (M : gM), G X (gQm X rvW rMW) 8 M [(0, .ref (xad X 0)), (2, .int a1), (3, .int x3), (4, .int x4), (5, .int x5), (6, .int x6)] [] 45 (k45 x3 x4 x5 x6 M)) (x3 : Int32) (x4 : Int32) (x5 : Int32) (x6 : Int32) (M : gM) : G X (gQm X rvW rMW) 8 M [(0, .ref (xad X 0)), (2, .int a1), (3, .int x3), (4, .int x4), (5, .int x5), (6, .int x6)] [] 45 (f_X8_raise_h45_b F a0 a1 k45 x3 x4 x5 x6 M) := by
  unfold f_X8_raise_h45_b
  refine g_iload (pc := 45) C dX8_raise_45 5 rfl ?_
  refine g_bipush (pc := 47) C dX8_raise_47 ic_bipush_20 ?_
  refine g_icmp_gt (pc := 49) (tgt := 119) C dX8_raise_49 (by decide) ?_ ?_
  · refine g_iload_n (pc := 119) C dX8_raise_119 rfl 1 rfl ?_
    refine g_if_ne (pc := 120) (tgt := 128) C dX8_raise_120 (by decide) ?_ ?_
    · refine g_iload (pc := 128) C dX8_raise_128 4 rfl ?_
      exact g_iret (pc := 130) C dX8_raise_130 rfl rfl
    · refine g_iload (pc := 123) C dX8_raise_123 3 rfl ?_
      refine g_goto (pc := 125) (tgt := 130) C dX8_raise_125 (by decide) ?_
      exact g_iret (pc := 130) C dX8_raise_130 rfl rfl
  · refine g_aload_n (pc := 52) C dX8_raise_52 rfl 0 rfl ?_
    refine gf_X8_38 (pc := 53) (u := 26) C kd_0 rfl dX8_raise_53 ?_
    refine g_iload_n (pc := 56) C dX8_raise_56 rfl 2 rfl ?_
    refine g_iload (pc := 57) C dX8_raise_57 5 rfl ?_
    refine g_aload_n (pc := 59) C dX8_raise_59 rfl 0 rfl ?_
    refine gf_X8_86 (pc := 60) (u := 94) C kd_0 rfl dX8_raise_60 ?_
    refine g_callV (pc := 63) C (g_runVN (stk := []) C (c_X5_raisePrices F 26 x3 x6 94 10 kd_26 kd_94 M) rfl rfl rfl kd_26 rfl wC_X5_raisePrices wI_X5_raisePrices wV_X5_raisePrices wi_X5 wnm_X8_222 hy_X5_raisePrices (by decide) (Nat.le_of_ble_eq_true rfl) dX8_raise_63) (fun r4 => ?_)
    refine g_aload_n (pc := 66) C dX8_raise_66 rfl 0 rfl ?_
    refine gf_X8_66 (pc := 67) (u := 43) C kd_0 rfl dX8_raise_67 ?_
    refine g_aload_n (pc := 70) C dX8_raise_70 rfl 0 rfl ?_
    refine gf_X8_86 (pc := 71) (u := 94) C kd_0 rfl dX8_raise_71 ?_
    refine g_aload_n (pc := 74) C dX8_raise_74 rfl 0 rfl ?_
    refine gf_X8_38 (pc := 75) (u := 26) C kd_0 rfl dX8_raise_75 ?_
    refine gf_X8_132 (pc := 78) C kd_26 dX8_raise_78 ?_
    refine g_callV (pc := 81) C (g_runVN (stk := []) C (c_X1_choose F 94 10 (r4 26 5) kd_94 r4) rfl rfl rfl kd_43 rfl wC_X1_choose wI_X1_choose wV_X1_choose wi_X1 wnm_X8_226 hy_X1_choose (by decide) (Nat.le_of_ble_eq_true rfl) dX8_raise_81) (fun r5 => ?_)
    refine g_aload_n (pc := 84) C dX8_raise_84 rfl 0 rfl ?_
    refine gf_X8_66 (pc := 85) (u := 43) C kd_0 rfl dX8_raise_85 ?_
    refine g_iload_n (pc := 88) C dX8_raise_88 rfl 2 rfl ?_
    refine g_aload_n (pc := 89) C dX8_raise_89 rfl 0 rfl ?_
    refine gf_X8_86 (pc := 90) (u := 94) C kd_0 rfl dX8_raise_90 ?_
    refine g_callR (pc := 93) C (g_runVN (stk := []) C (c_X1_priceOfWorn F x3 94 10 kd_94 r5) rfl rfl rfl kd_43 rfl wC_X1_priceOfWorn wI_X1_priceOfWorn wV_X1_priceOfWorn wi_X1 wnm_X8_215 hy_X1_priceOfWorn (by decide) (Nat.le_of_ble_eq_true rfl) dX8_raise_93) (fun r6 => ?_)
    refine g_istore (pc := 96) (lv' := [(7, .int r6), (0, .ref (xad X 0)), (2, .int a1), (3, .int x3), (4, .int x4), (5, .int x5), (6, .int x6)]) C dX8_raise_96 (by decide) rfl ?_
    refine g_iload (pc := 98) C dX8_raise_98 0 rfl ?_
    refine g_iload (pc := 100) C dX8_raise_100 5 rfl ?_
    refine g_icmp_le (pc := 102) (tgt := 113) C dX8_raise_102 (by decide) ?_ ?_
    · refine g_iinc (pc := 113) (j := 6) (lv' := [(6, .int (x6 + (1 : Int32))), (7, .int r6), (0, .ref (xad X 0)), (2, .int a1), (3, .int x3), (4, .int x4), (5, .int x5)]) C dX8_raise_113 rfl (ii_1 _) (by decide) rfl ?_
      refine g_goto (pc := 116) (tgt := 45) C dX8_raise_116 (by decide) ?_
      refine g_sub (lv' := [(0, .ref (xad X 0)), (2, .int a1), (3, .int x3), (4, .int x4), (5, .int x5), (6, .int (x6 + (1 : Int32)))]) [2, 3, 4, 5, 6, 0] rfl ?_
      exact hk45 x3 x4 x5 (x6 + (1 : Int32)) r5
    · refine g_iload (pc := 105) C dX8_raise_105 0 rfl ?_
      refine g_istore (pc := 107) (lv' := [(5, .int r6), (7, .int r6), (0, .ref (xad X 0)), (2, .int a1), (3, .int x3), (4, .int x4), (6, .int x6)]) C dX8_raise_107 (by decide) rfl ?_
      refine g_iload (pc := 109) C dX8_raise_109 6 rfl ?_
      refine g_istore (pc := 111) (lv' := [(4, .int x6), (5, .int r6), (7, .int r6), (0, .ref (xad X 0)), (2, .int a1), (3, .int x3), (6, .int x6)]) C dX8_raise_111 (by decide) rfl ?_
      refine g_iinc (pc := 113) (j := 6) (lv' := [(6, .int (x6 + (1 : Int32))), (4, .int x6), (5, .int r6), (7, .int r6), (0, .ref (xad X 0)), (2, .int a1), (3, .int x3)]) C dX8_raise_113 rfl (ii_1 _) (by decide) rfl ?_
      refine g_goto (pc := 116) (tgt := 45) C dX8_raise_116 (by decide) ?_
      refine g_sub (lv' := [(0, .ref (xad X 0)), (2, .int a1), (3, .int x3), (4, .int x6), (5, .int r6), (6, .int (x6 + (1 : Int32)))]) [4, 5, 6, 1, 2, 0] rfl ?_
      exact hk45 x3 x6 r6 (x6 + (1 : Int32)) r5

theorem g_X8_raise_h45 {X : gX} (C : gC X cX8_raise RX8 8 (some .int) 4 95) (F : Nat) (a0 : Int32) (a1 : Int32) : ∀ (n : Nat) (x3 : Int32) (x4 : Int32) (x5 : Int32) (x6 : Int32) (M : gM), G X (gQm X rvW rMW) 8 M [(0, .ref (xad X 0)), (2, .int a1), (3, .int x3), (4, .int x4), (5, .int x5), (6, .int x6)] [] 45 (f_X8_raise_h45 F a0 a1 n x3 x4 x5 x6 M) := by
  intro n
  induction n with
  | zero =>
    intro x3 x4 x5 x6 M r hr
    have hr2 : (none : Option (Int32 × gM)) = some r := hr
    cases hr2
  | succ n ih =>
    intro x3 x4 x5 x6 M
    exact g_X8_raise_h45_b C F a0 a1 _ ih x3 x4 x5 x6 M
set_option maxRecDepth 100000 in
set_option maxHeartbeats 4000000 in
theorem c_X8_raise (F : Nat) (a0 : Int32) (a1 : Int32)  (M : gM) : gCt yX8_raise cX8_raise 8 (some .int) 4 95 (fun ad K V => [.ref (ad 0), .int a0, .int a1]) rvW rMW M (f_X8_raise F a0 a1 M) := by
  refine g_met (y := yX8_raise) (by decide +kernel) (fun _ _ _ => Nat.le_of_ble_eq_true rfl) (fun X C => ?_)
  show G X (gQm X rvW rMW) 8 M [(0, .ref (xad X 0)), (1, .int a0), (2, .int a1)] [] 0 (f_X8_raise F a0 a1 M)
  unfold f_X8_raise
  refine g_iload_n (pc := 0) C dX8_raise_0 rfl 1 rfl ?_
  refine g_callR (pc := 1) C (g_runS (stk := []) C (c_X8_isLandlord a0 M) rfl rfl rfl wC_X8_isLandlord wS_X8_isLandlord wi_X8 wm_X8_209 hy_X8_isLandlord (by decide) (Nat.le_of_ble_eq_true rfl) dX8_raise_1) (fun r1 => ?_)
  refine g_if_eq (pc := 4) (tgt := 16) C dX8_raise_4 (by decide) ?_ ?_
  · refine g_ldc (pc := 16) C wk_X8_94 dX8_raise_16 ?_
    exact g_iret (pc := 18) C dX8_raise_18 rfl rfl
  · refine g_iload_n (pc := 7) C dX8_raise_7 rfl 2 rfl ?_
    refine g_if_lt (pc := 8) (tgt := 16) C dX8_raise_8 (by decide) ?_ ?_
    · refine g_ldc (pc := 16) C wk_X8_94 dX8_raise_16 ?_
      exact g_iret (pc := 18) C dX8_raise_18 rfl rfl
    · refine g_iload_n (pc := 11) C dX8_raise_11 rfl 2 rfl ?_
      refine g_iconst (pc := 12) C dX8_raise_12 ic_iconst_1 ?_
      refine g_icmp_le (pc := 13) (tgt := 19) C dX8_raise_13 (by decide) ?_ ?_
      · refine g_aload_n (pc := 19) C dX8_raise_19 rfl 0 rfl ?_
        refine gf_X8_19 (pc := 20) (u := 3) C kd_0 rfl dX8_raise_20 ?_
        refine g_iload_n (pc := 23) C dX8_raise_23 rfl 1 rfl ?_
        refine g_callR (pc := 24) C (g_runVN (stk := []) C (c_X7_ownedBy F 3 a0 kd_3 M) rfl rfl rfl kd_3 rfl wC_X7_ownedBy wI_X7_ownedBy wV_X7_ownedBy wi_X7 wnm_X8_212 hy_X7_ownedBy (by decide) (Nat.le_of_ble_eq_true rfl) dX8_raise_24) (fun r2 => ?_)
        refine g_istore_n (pc := 27) (lv' := [(3, .int r2), (0, .ref (xad X 0)), (1, .int a0), (2, .int a1)]) C dX8_raise_27 rfl (by decide) rfl ?_
        refine g_iconst (pc := 28) C dX8_raise_28 ic_iconst_0 ?_
        refine g_istore (pc := 29) (lv' := [(4, .int (0 : Int32)), (3, .int r2), (0, .ref (xad X 0)), (1, .int a0), (2, .int a1)]) C dX8_raise_29 (by decide) rfl ?_
        refine g_iconst (pc := 31) C dX8_raise_31 ic_iconst_m1 ?_
        refine g_istore (pc := 32) (lv' := [(5, .int (-1 : Int32)), (4, .int (0 : Int32)), (3, .int r2), (0, .ref (xad X 0)), (1, .int a0), (2, .int a1)]) C dX8_raise_32 (by decide) rfl ?_
        refine g_aload_n (pc := 34) C dX8_raise_34 rfl 3 rfl ?_
        refine gf_X8_66 (pc := 35) (u := 43) C kd_0 rfl dX8_raise_35 ?_
        refine g_iconst (pc := 38) C dX8_raise_38 ic_iconst_0 ?_
        refine g_callV (pc := 39) C (g_runVN (stk := []) C (c_X1_gather F (0 : Int32) M) rfl rfl rfl kd_43 rfl wC_X1_gather wI_X1_gather wV_X1_gather wi_X1 wnm_X8_219 hy_X1_gather (by decide) (Nat.le_of_ble_eq_true rfl) dX8_raise_39) (fun r3 => ?_)
        refine g_iconst (pc := 42) C dX8_raise_42 ic_iconst_0 ?_
        refine g_istore (pc := 43) (lv' := [(6, .int (0 : Int32)), (5, .int (-1 : Int32)), (4, .int (0 : Int32)), (3, .int r2), (0, .ref (xad X 0)), (1, .int a0), (2, .int a1)]) C dX8_raise_43 (by decide) rfl ?_
        refine g_sub (lv' := [(0, .ref (xad X 0)), (2, .int a1), (3, .int r2), (4, .int (0 : Int32)), (5, .int (-1 : Int32)), (6, .int (0 : Int32))]) [4, 6, 3, 2, 1, 0] rfl ?_
        exact g_X8_raise_h45 C F a0 a1 F r2 (0 : Int32) (-1 : Int32) (0 : Int32) r3
      · refine g_ldc (pc := 16) C wk_X8_94 dX8_raise_16 ?_
        exact g_iret (pc := 18) C dX8_raise_18 rfl rfl

/-! X8_rent -/
set_option maxRecDepth 100000 in
set_option maxHeartbeats 4000000 in
theorem c_X8_rent (F : Nat) (a0 : Int32)  (M : gM) : gCt yX8_rent cX8_rent 2 (some .int) 5 116 (fun ad K V => [.ref (ad 0), .int a0]) rvW rMW M (f_X8_rent F a0 M) := by
  refine g_met (y := yX8_rent) (by decide +kernel) (fun _ _ _ => Nat.le_of_ble_eq_true rfl) (fun X C => ?_)
  show G X (gQm X rvW rMW) 2 M [(0, .ref (xad X 0)), (1, .int a0)] [] 0 (f_X8_rent F a0 M)
  unfold f_X8_rent
  refine g_iload_n (pc := 0) C dX8_rent_0 rfl 1 rfl ?_
  refine g_callR (pc := 1) C (g_runS (stk := []) C (c_X8_isLandlord a0 M) rfl rfl rfl wC_X8_isLandlord wS_X8_isLandlord wi_X8 wm_X8_209 hy_X8_isLandlord (by decide) (Nat.le_of_ble_eq_true rfl) dX8_rent_1) (fun r1 => ?_)
  refine g_if_ne (pc := 4) (tgt := 10) C dX8_rent_4 (by decide) ?_ ?_
  · refine g_aload_n (pc := 10) C dX8_rent_10 rfl 0 rfl ?_
    refine g_iconst (pc := 11) C dX8_rent_11 ic_iconst_0 ?_
    refine g_callV (pc := 12) C (g_runV (stk := []) C (c_X8_dressBest F (0 : Int32) M) rfl rfl rfl kd_0 rfl wC_X8_dressBest wI_X8_dressBest wV_X8_dressBest wi_X8 wm_X8_200 hy_X8_dressBest (by decide) (Nat.le_of_ble_eq_true rfl) dX8_rent_12) (fun r2 => ?_)
    refine g_aload_n (pc := 15) C dX8_rent_15 rfl 0 rfl ?_
    refine gf_X8_66 (pc := 16) (u := 43) C kd_0 rfl dX8_rent_16 ?_
    refine g_aload_n (pc := 19) C dX8_rent_19 rfl 0 rfl ?_
    refine gf_X8_19 (pc := 20) (u := 3) C kd_0 rfl dX8_rent_20 ?_
    refine g_iload_n (pc := 23) C dX8_rent_23 rfl 1 rfl ?_
    refine g_callR (pc := 24) C (g_runVN (stk := [.ref (xad X 43)]) C (c_X7_ownedBy F 3 a0 kd_3 r2) rfl rfl rfl kd_3 rfl wC_X7_ownedBy wI_X7_ownedBy wV_X7_ownedBy wi_X7 wnm_X8_212 hy_X7_ownedBy (by decide) (Nat.le_of_ble_eq_true rfl) dX8_rent_24) (fun r3 => ?_)
    refine g_aload_n (pc := 27) C dX8_rent_27 rfl 0 rfl ?_
    refine gf_X8_38 (pc := 28) (u := 26) C kd_0 rfl dX8_rent_28 ?_
    refine gf_X8_160 (pc := 31) (u := 28) C kd_26 rfl dX8_rent_31 ?_
    refine g_callR (pc := 34) C (g_runVN (stk := []) C (c_X1_priceOfWorn F r3 28 10 kd_28 r2) rfl rfl rfl kd_43 rfl wC_X1_priceOfWorn wI_X1_priceOfWorn wV_X1_priceOfWorn wi_X1 wnm_X8_215 hy_X1_priceOfWorn (by decide) (Nat.le_of_ble_eq_true rfl) dX8_rent_34) (fun r4 => ?_)
    exact g_iret (pc := 37) C dX8_rent_37 rfl rfl
  · refine g_ldc (pc := 7) C wk_X8_94 dX8_rent_7 ?_
    exact g_iret (pc := 9) C dX8_rent_9 rfl rfl

/-! X8_scene -/
set_option maxRecDepth 100000 in
set_option maxHeartbeats 4000000 in
theorem c_X8_scene (a0 : Int32) (a1 : Int32)  (M : gM) : gCt yX8_scene cX8_scene 3 (some .int) 1 21 (fun ad K V => [.ref (ad 0), .int a0, .int a1]) rvR (rMR M) M (f_X8_scene a0 a1 M) := by
  refine g_met (y := yX8_scene) (by decide +kernel) (fun _ _ _ => Nat.le_of_ble_eq_true rfl) (fun X C => ?_)
  show G X (gQm X rvR (rMR M)) 3 M [(0, .ref (xad X 0)), (1, .int a0), (2, .int a1)] [] 0 (f_X8_scene a0 a1 M)
  unfold f_X8_scene
  refine g_aload_n (pc := 0) C dX8_scene_0 rfl 0 rfl ?_
  refine gf_X8_19 (pc := 1) (u := 3) C kd_0 rfl dX8_scene_1 ?_
  refine g_iload_n (pc := 4) C dX8_scene_4 rfl 1 rfl ?_
  refine g_callR (pc := 5) C (g_runVN (stk := []) C (c_X7_hasScene 3 a0 kd_3 M) rfl rfl rfl kd_3 rfl wC_X7_hasScene wI_X7_hasScene wV_X7_hasScene wi_X7 wnm_X8_175 hy_X7_hasScene (by decide) (Nat.le_of_ble_eq_true rfl) dX8_scene_5) (fun r1 => ?_)
  refine g_if_ne (pc := 8) (tgt := 14) C dX8_scene_8 (by decide) ?_ ?_
  · refine g_iload_n (pc := 14) C dX8_scene_14 rfl 2 rfl ?_
    refine g_case (pc := 15) (tgt := 40) (ai := 0) C dX8_scene_15 (by decide) (by decide) (by decide) rfl (by decide) ?_ (fun hc2 => ?_)
    · refine g_aload_n (pc := 40) C dX8_scene_40 rfl 0 rfl ?_
      refine gf_X8_19 (pc := 41) (u := 3) C kd_0 rfl dX8_scene_41 ?_
      refine gf_X8_178 (pc := 44) (u := 11) C kd_3 rfl dX8_scene_44 ?_
      refine g_iload_n (pc := 47) C dX8_scene_47 rfl 1 rfl ?_
      refine g_iald (pc := 48) C kd_11 dX8_scene_48 ?_
      exact g_iret (pc := 49) C dX8_scene_49 rfl rfl
    refine g_case (pc := 15) (tgt := 50) (ai := 1) C dX8_scene_15 (by decide) (by decide) (by decide) rfl (by decide) ?_ (fun hc3 => ?_)
    · refine g_aload_n (pc := 50) C dX8_scene_50 rfl 0 rfl ?_
      refine gf_X8_19 (pc := 51) (u := 3) C kd_0 rfl dX8_scene_51 ?_
      refine gf_X8_181 (pc := 54) (u := 12) C kd_3 rfl dX8_scene_54 ?_
      refine g_iload_n (pc := 57) C dX8_scene_57 rfl 1 rfl ?_
      refine g_iald (pc := 58) C kd_12 dX8_scene_58 ?_
      exact g_iret (pc := 59) C dX8_scene_59 rfl rfl
    refine g_case (pc := 15) (tgt := 60) (ai := 2) C dX8_scene_15 (by decide) (by decide) (by decide) rfl (by decide) ?_ (fun hc4 => ?_)
    · refine g_aload_n (pc := 60) C dX8_scene_60 rfl 0 rfl ?_
      refine gf_X8_19 (pc := 61) (u := 3) C kd_0 rfl dX8_scene_61 ?_
      refine gf_X8_184 (pc := 64) (u := 13) C kd_3 rfl dX8_scene_64 ?_
      refine g_iload_n (pc := 67) C dX8_scene_67 rfl 1 rfl ?_
      refine g_iald (pc := 68) C kd_13 dX8_scene_68 ?_
      exact g_iret (pc := 69) C dX8_scene_69 rfl rfl
    refine g_dflt (pc := 15) (tgt := 70) C dX8_scene_15 (by omega) (by decide) ?_
    refine g_ldc (pc := 70) C wk_X8_94 dX8_scene_70 ?_
    exact g_iret (pc := 72) C dX8_scene_72 rfl rfl
  · refine g_ldc (pc := 11) C wk_X8_150 dX8_scene_11 ?_
    exact g_iret (pc := 13) C dX8_scene_13 rfl rfl

/-! X8_see -/
set_option maxRecDepth 100000 in
set_option maxHeartbeats 4000000 in
theorem c_X8_see (a0 : Int32) (a1 : Int32)  (M : gM) : gCt yX8_see cX8_see 3 (some .int) 1 22 (fun ad K V => [.ref (ad 0), .int a0, .int a1]) rvW rMW M (f_X8_see a0 a1 M) := by
  refine g_met (y := yX8_see) (by decide +kernel) (fun _ _ _ => Nat.le_of_ble_eq_true rfl) (fun X C => ?_)
  show G X (gQm X rvW rMW) 3 M [(0, .ref (xad X 0)), (1, .int a0), (2, .int a1)] [] 0 (f_X8_see a0 a1 M)
  unfold f_X8_see
  refine g_iload_n (pc := 0) C dX8_see_0 rfl 1 rfl ?_
  refine g_callR (pc := 1) C (g_runS (stk := []) C (c_X8_isHour a0 M) rfl rfl rfl wC_X8_isHour wS_X8_isHour wi_X8 wm_X8_235 hy_X8_isHour (by decide) (Nat.le_of_ble_eq_true rfl) dX8_see_1) (fun r1 => ?_)
  refine g_if_eq (pc := 4) (tgt := 17) C dX8_see_4 (by decide) ?_ ?_
  · refine g_ldc (pc := 17) C wk_X8_94 dX8_see_17 ?_
    exact g_iret (pc := 19) C dX8_see_19 rfl rfl
  · refine g_iload_n (pc := 7) C dX8_see_7 rfl 2 rfl ?_
    refine g_if_lt (pc := 8) (tgt := 17) C dX8_see_8 (by decide) ?_ ?_
    · refine g_ldc (pc := 17) C wk_X8_94 dX8_see_17 ?_
      exact g_iret (pc := 19) C dX8_see_19 rfl rfl
    · refine g_iload_n (pc := 11) C dX8_see_11 rfl 2 rfl ?_
      refine g_bipush (pc := 12) C dX8_see_12 ic_bipush_27 ?_
      refine g_icmp_le (pc := 14) (tgt := 20) C dX8_see_14 (by decide) ?_ ?_
      · refine g_aload_n (pc := 20) C dX8_see_20 rfl 0 rfl ?_
        refine gf_X8_73 (pc := 21) (u := 88) C kd_0 rfl dX8_see_21 ?_
        refine g_iload_n (pc := 24) C dX8_see_24 rfl 1 rfl ?_
        refine g_iload_n (pc := 25) C dX8_see_25 rfl 2 rfl ?_
        refine g_callW (pc := 26) C (g_runVN (stk := []) C (c_X4_add a0 a1 M) rfl rfl rfl kd_88 rfl wC_X4_add wI_X4_add wV_X4_add wi_X4 wnm_X8_245 hy_X4_add (by decide) (Nat.le_of_ble_eq_true rfl) dX8_see_26) (fun r2 => ?_)
        refine g_if_eq (pc := 29) (tgt := 42) C dX8_see_29 (by decide) ?_ ?_
        · refine g_ldc (pc := 42) C wk_X8_98 dX8_see_42 ?_
          exact g_iret (pc := 44) C dX8_see_44 rfl rfl
        · refine g_aload_n (pc := 32) C dX8_see_32 rfl 0 rfl ?_
          refine gf_X8_73 (pc := 33) (u := 88) C kd_0 rfl dX8_see_33 ?_
          refine gf_X8_119 (pc := 36) C kd_88 dX8_see_36 ?_
          refine g_goto (pc := 39) (tgt := 44) C dX8_see_39 (by decide) ?_
          exact g_iret (pc := 44) C dX8_see_44 rfl rfl
      · refine g_ldc (pc := 17) C wk_X8_94 dX8_see_17 ?_
        exact g_iret (pc := 19) C dX8_see_19 rfl rfl

/-! X8_seed -/
set_option maxRecDepth 100000 in
set_option maxHeartbeats 4000000 in
theorem c_X8_seed (a0 : Int32)  (M : gM) : gCt yX8_seed cX8_seed 3 (some .int) 0 0 (fun ad K V => [.ref (ad 0), .int a0]) rvW rMW M (f_X8_seed a0 M) := by
  refine g_met (y := yX8_seed) (by decide +kernel) (fun _ _ _ => Nat.le_of_ble_eq_true rfl) (fun X C => ?_)
  show G X (gQm X rvW rMW) 3 M [(0, .ref (xad X 0)), (1, .int a0)] [] 0 (f_X8_seed a0 M)
  unfold f_X8_seed
  refine g_iload_n (pc := 0) C dX8_seed_0 rfl 1 rfl ?_
  refine g_if_ge (pc := 1) (tgt := 7) C dX8_seed_1 (by decide) ?_ ?_
  · refine g_aload_n (pc := 7) C dX8_seed_7 rfl 0 rfl ?_
    refine gf_X8_38 (pc := 8) (u := 26) C kd_0 rfl dX8_seed_8 ?_
    refine gf_X8_280 (pc := 11) C kd_26 dX8_seed_11 ?_
    refine g_lt (fun v1 => ?_)
    refine g_istore_n (pc := 14) (lv' := [(2, .int v1), (0, .ref (xad X 0)), (1, .int a0)]) C dX8_seed_14 rfl (by decide) rfl ?_
    refine g_aload_n (pc := 15) C dX8_seed_15 rfl 1 rfl ?_
    refine gf_X8_38 (pc := 16) (u := 26) C kd_0 rfl dX8_seed_16 ?_
    refine g_iload_n (pc := 19) C dX8_seed_19 rfl 2 rfl ?_
    refine gp_X8_280 (pc := 20) C kd_26 dX8_seed_20 ?_
    refine g_ltM (fun M2 => ?_)
    refine g_iload_n (pc := 23) C dX8_seed_23 rfl 0 rfl ?_
    exact g_iret (pc := 24) C dX8_seed_24 rfl rfl
  · refine g_ldc (pc := 4) C wk_X8_94 dX8_seed_4 ?_
    exact g_iret (pc := 6) C dX8_seed_6 rfl rfl

/-! X8_seen -/
set_option maxRecDepth 100000 in
set_option maxHeartbeats 4000000 in
theorem c_X8_seen (F : Nat) (a0 : Int32) (a1 : Int32)  (M : gM) : gCt yX8_seen cX8_seen 3 (some .int) 5 114 (fun ad K V => [.ref (ad 0), .int a0, .int a1]) rvR (rMR M) M (f_X8_seen F a0 a1 M) := by
  refine g_met (y := yX8_seen) (by decide +kernel) (fun _ _ _ => Nat.le_of_ble_eq_true rfl) (fun X C => ?_)
  show G X (gQm X rvR (rMR M)) 3 M [(0, .ref (xad X 0)), (1, .int a0), (2, .int a1)] [] 0 (f_X8_seen F a0 a1 M)
  unfold f_X8_seen
  refine g_iload_n (pc := 0) C dX8_seen_0 rfl 2 rfl ?_
  refine g_if_lt (pc := 1) (tgt := 9) C dX8_seen_1 (by decide) ?_ ?_
  · refine g_ldc (pc := 9) C wk_X8_94 dX8_seen_9 ?_
    exact g_iret (pc := 11) C dX8_seen_11 rfl rfl
  · refine g_iload_n (pc := 4) C dX8_seen_4 rfl 2 rfl ?_
    refine g_iconst (pc := 5) C dX8_seen_5 ic_iconst_1 ?_
    refine g_icmp_le (pc := 6) (tgt := 12) C dX8_seen_6 (by decide) ?_ ?_
    · refine g_iload_n (pc := 12) C dX8_seen_12 rfl 1 rfl ?_
      refine g_if_lt (pc := 13) (tgt := 27) C dX8_seen_13 (by decide) ?_ ?_
      · refine g_iconst (pc := 27) C dX8_seen_27 ic_iconst_m1 ?_
        exact g_iret (pc := 28) C dX8_seen_28 rfl rfl
      · refine g_iload_n (pc := 16) C dX8_seen_16 rfl 1 rfl ?_
        refine g_aload_n (pc := 17) C dX8_seen_17 rfl 0 rfl ?_
        refine gf_X8_73 (pc := 18) (u := 88) C kd_0 rfl dX8_seen_18 ?_
        refine gf_X8_119 (pc := 21) C kd_88 dX8_seen_21 ?_
        refine g_icmp_lt (pc := 24) (tgt := 29) C dX8_seen_24 (by decide) ?_ ?_
        · refine g_iload_n (pc := 29) C dX8_seen_29 rfl 2 rfl ?_
          refine g_if_ne (pc := 30) (tgt := 44) C dX8_seen_30 (by decide) ?_ ?_
          · refine g_aload_n (pc := 44) C dX8_seen_44 rfl 0 rfl ?_
            refine gf_X8_73 (pc := 45) (u := 88) C kd_0 rfl dX8_seen_45 ?_
            refine g_iload_n (pc := 48) C dX8_seen_48 rfl 1 rfl ?_
            refine g_callR (pc := 49) C (g_runVN (stk := []) C (c_X4_surelyWorn F a0 M) rfl rfl rfl kd_88 rfl wC_X4_surelyWorn wI_X4_surelyWorn wV_X4_surelyWorn wi_X4 wnm_X8_251 hy_X4_surelyWorn (by decide) (Nat.le_of_ble_eq_true rfl) dX8_seen_49) (fun r1 => ?_)
            exact g_iret (pc := 52) C dX8_seen_52 rfl rfl
          · refine g_aload_n (pc := 33) C dX8_seen_33 rfl 0 rfl ?_
            refine gf_X8_73 (pc := 34) (u := 88) C kd_0 rfl dX8_seen_34 ?_
            refine g_iload_n (pc := 37) C dX8_seen_37 rfl 1 rfl ?_
            refine g_callR (pc := 38) C (g_runVN (stk := []) C (c_X4_mayBeWorn F a0 M) rfl rfl rfl kd_88 rfl wC_X4_mayBeWorn wI_X4_mayBeWorn wV_X4_mayBeWorn wi_X4 wnm_X8_248 hy_X4_mayBeWorn (by decide) (Nat.le_of_ble_eq_true rfl) dX8_seen_38) (fun r2 => ?_)
            refine g_goto (pc := 41) (tgt := 52) C dX8_seen_41 (by decide) ?_
            exact g_iret (pc := 52) C dX8_seen_52 rfl rfl
        · refine g_iconst (pc := 27) C dX8_seen_27 ic_iconst_m1 ?_
          exact g_iret (pc := 28) C dX8_seen_28 rfl rfl
    · refine g_ldc (pc := 9) C wk_X8_94 dX8_seen_9 ?_
      exact g_iret (pc := 11) C dX8_seen_11 rfl rfl

/-! X8_strange -/
set_option maxRecDepth 100000 in
set_option maxHeartbeats 4000000 in
theorem c_X8_strange (F : Nat)  (M : gM) : gCt yX8_strange cX8_strange 1 (some .int) 5 111 (fun ad K V => [.ref (ad 0)]) rvR (rMR M) M (f_X8_strange F M) := by
  refine g_met (y := yX8_strange) (by decide +kernel) (fun _ _ _ => Nat.le_of_ble_eq_true rfl) (fun X C => ?_)
  show G X (gQm X rvR (rMR M)) 1 M [(0, .ref (xad X 0))] [] 0 (f_X8_strange F M)
  unfold f_X8_strange
  refine g_aload_n (pc := 0) C dX8_strange_0 rfl 0 rfl ?_
  refine gf_X8_73 (pc := 1) (u := 88) C kd_0 rfl dX8_strange_1 ?_
  refine g_callR (pc := 4) C (g_runVN (stk := []) C (c_X4_firstStrange F M) rfl rfl rfl kd_88 rfl wC_X4_firstStrange wI_X4_firstStrange wV_X4_firstStrange wi_X4 wnm_X8_254 hy_X4_firstStrange (by decide) (Nat.le_of_ble_eq_true rfl) dX8_strange_4) (fun r1 => ?_)
  exact g_iret (pc := 7) C dX8_strange_7 rfl rfl

/-! X8_tear -/
set_option maxRecDepth 100000 in
set_option maxHeartbeats 4000000 in
theorem c_X8_tear   (M : gM) : gCt yX8_tear cX8_tear 2 (some .int) 0 0 (fun ad K V => [.ref (ad 0)]) rvW rMW M (f_X8_tear M) := by
  refine g_met (y := yX8_tear) (by decide +kernel) (fun _ _ _ => Nat.le_of_ble_eq_true rfl) (fun X C => ?_)
  show G X (gQm X rvW rMW) 2 M [(0, .ref (xad X 0))] [] 0 (f_X8_tear M)
  unfold f_X8_tear
  refine g_aload_n (pc := 0) C dX8_tear_0 rfl 0 rfl ?_
  refine gf_X8_82 (pc := 1) (u := 91) C kd_0 rfl dX8_tear_1 ?_
  refine gf_X8_122 (pc := 4) C kd_91 dX8_tear_4 ?_
  refine g_aload_n (pc := 7) C dX8_tear_7 rfl 0 rfl ?_
  refine gf_X8_73 (pc := 8) (u := 88) C kd_0 rfl dX8_tear_8 ?_
  refine gf_X8_119 (pc := 11) C kd_88 dX8_tear_11 ?_
  refine g_iadd (pc := 14) C dX8_tear_14 ?_
  refine g_lt (fun v1 => ?_)
  refine g_istore_n (pc := 15) (lv' := [(1, .int v1), (0, .ref (xad X 0))]) C dX8_tear_15 rfl (by decide) rfl ?_
  refine g_aload_n (pc := 16) C dX8_tear_16 rfl 1 rfl ?_
  refine gf_X8_82 (pc := 17) (u := 91) C kd_0 rfl dX8_tear_17 ?_
  refine g_iconst (pc := 20) C dX8_tear_20 ic_iconst_0 ?_
  refine gp_X8_122 (pc := 21) C kd_91 dX8_tear_21 ?_
  refine g_ltM (fun M2 => ?_)
  refine g_aload_n (pc := 24) C dX8_tear_24 rfl 1 rfl ?_
  refine gf_X8_73 (pc := 25) (u := 88) C kd_0 rfl dX8_tear_25 ?_
  refine g_iconst (pc := 28) C dX8_tear_28 ic_iconst_0 ?_
  refine gp_X8_119 (pc := 29) C kd_88 dX8_tear_29 ?_
  refine g_ltM (fun M3 => ?_)
  refine g_iload_n (pc := 32) C dX8_tear_32 rfl 0 rfl ?_
  exact g_iret (pc := 33) C dX8_tear_33 rfl rfl

/-! X8_told -/
set_option maxRecDepth 100000 in
set_option maxHeartbeats 4000000 in
theorem c_X8_told (F : Nat) (a0 : Int32)  (M : gM) : gCt yX8_told cX8_told 2 (some .int) 3 68 (fun ad K V => [.ref (ad 0), .int a0]) rvR (rMR M) M (f_X8_told F a0 M) := by
  refine g_met (y := yX8_told) (by decide +kernel) (fun _ _ _ => Nat.le_of_ble_eq_true rfl) (fun X C => ?_)
  show G X (gQm X rvR (rMR M)) 2 M [(0, .ref (xad X 0)), (1, .int a0)] [] 0 (f_X8_told F a0 M)
  unfold f_X8_told
  refine g_iload_n (pc := 0) C dX8_told_0 rfl 1 rfl ?_
  refine g_case (pc := 1) (tgt := 60) (ai := 0) C dX8_told_1 (by decide) (by decide) (by decide) rfl (by decide) ?_ (fun hc1 => ?_)
  · refine g_aload_n (pc := 60) C dX8_told_60 rfl 0 rfl ?_
    refine gf_X8_19 (pc := 61) (u := 3) C kd_0 rfl dX8_told_61 ?_
    refine gf_X8_123 (pc := 64) C kd_3 dX8_told_64 ?_
    exact g_iret (pc := 67) C dX8_told_67 rfl rfl
  refine g_case (pc := 1) (tgt := 68) (ai := 1) C dX8_told_1 (by decide) (by decide) (by decide) rfl (by decide) ?_ (fun hc2 => ?_)
  · refine g_aload_n (pc := 68) C dX8_told_68 rfl 0 rfl ?_
    refine gf_X8_19 (pc := 69) (u := 3) C kd_0 rfl dX8_told_69 ?_
    refine gf_X8_126 (pc := 72) C kd_3 dX8_told_72 ?_
    exact g_iret (pc := 75) C dX8_told_75 rfl rfl
  refine g_case (pc := 1) (tgt := 76) (ai := 2) C dX8_told_1 (by decide) (by decide) (by decide) rfl (by decide) ?_ (fun hc3 => ?_)
  · refine g_aload_n (pc := 76) C dX8_told_76 rfl 0 rfl ?_
    refine gf_X8_19 (pc := 77) (u := 3) C kd_0 rfl dX8_told_77 ?_
    refine gf_X8_129 (pc := 80) C kd_3 dX8_told_80 ?_
    exact g_iret (pc := 83) C dX8_told_83 rfl rfl
  refine g_case (pc := 1) (tgt := 84) (ai := 3) C dX8_told_1 (by decide) (by decide) (by decide) rfl (by decide) ?_ (fun hc4 => ?_)
  · refine g_aload_n (pc := 84) C dX8_told_84 rfl 0 rfl ?_
    refine gf_X8_10 (pc := 85) (u := 1) C kd_0 rfl dX8_told_85 ?_
    refine gf_X8_95 (pc := 88) C kd_1 dX8_told_88 ?_
    exact g_iret (pc := 91) C dX8_told_91 rfl rfl
  refine g_case (pc := 1) (tgt := 92) (ai := 4) C dX8_told_1 (by decide) (by decide) (by decide) rfl (by decide) ?_ (fun hc5 => ?_)
  · refine g_aload_n (pc := 92) C dX8_told_92 rfl 0 rfl ?_
    refine gf_X8_38 (pc := 93) (u := 26) C kd_0 rfl dX8_told_93 ?_
    refine gf_X8_132 (pc := 96) C kd_26 dX8_told_96 ?_
    exact g_iret (pc := 99) C dX8_told_99 rfl rfl
  refine g_case (pc := 1) (tgt := 100) (ai := 5) C dX8_told_1 (by decide) (by decide) (by decide) rfl (by decide) ?_ (fun hc6 => ?_)
  · refine g_aload_n (pc := 100) C dX8_told_100 rfl 0 rfl ?_
    refine gf_X8_38 (pc := 101) (u := 26) C kd_0 rfl dX8_told_101 ?_
    refine gf_X8_135 (pc := 104) C kd_26 dX8_told_104 ?_
    exact g_iret (pc := 107) C dX8_told_107 rfl rfl
  refine g_case (pc := 1) (tgt := 108) (ai := 6) C dX8_told_1 (by decide) (by decide) (by decide) rfl (by decide) ?_ (fun hc7 => ?_)
  · refine g_aload_n (pc := 108) C dX8_told_108 rfl 0 rfl ?_
    refine gf_X8_38 (pc := 109) (u := 26) C kd_0 rfl dX8_told_109 ?_
    refine gf_X8_138 (pc := 112) C kd_26 dX8_told_112 ?_
    exact g_iret (pc := 115) C dX8_told_115 rfl rfl
  refine g_case (pc := 1) (tgt := 116) (ai := 7) C dX8_told_1 (by decide) (by decide) (by decide) rfl (by decide) ?_ (fun hc8 => ?_)
  · refine g_aload_n (pc := 116) C dX8_told_116 rfl 0 rfl ?_
    refine gf_X8_73 (pc := 117) (u := 88) C kd_0 rfl dX8_told_117 ?_
    refine gf_X8_119 (pc := 120) C kd_88 dX8_told_120 ?_
    exact g_iret (pc := 123) C dX8_told_123 rfl rfl
  refine g_case (pc := 1) (tgt := 124) (ai := 8) C dX8_told_1 (by decide) (by decide) (by decide) rfl (by decide) ?_ (fun hc9 => ?_)
  · refine g_aload_n (pc := 124) C dX8_told_124 rfl 0 rfl ?_
    refine gf_X8_82 (pc := 125) (u := 91) C kd_0 rfl dX8_told_125 ?_
    refine gf_X8_122 (pc := 128) C kd_91 dX8_told_128 ?_
    exact g_iret (pc := 131) C dX8_told_131 rfl rfl
  refine g_case (pc := 1) (tgt := 132) (ai := 9) C dX8_told_1 (by decide) (by decide) (by decide) rfl (by decide) ?_ (fun hc10 => ?_)
  · refine g_aload_n (pc := 132) C dX8_told_132 rfl 0 rfl ?_
    refine gf_X8_57 (pc := 133) (u := 39) C kd_0 rfl dX8_told_133 ?_
    refine gf_X8_141 (pc := 136) C kd_39 dX8_told_136 ?_
    exact g_iret (pc := 139) C dX8_told_139 rfl rfl
  refine g_case (pc := 1) (tgt := 140) (ai := 10) C dX8_told_1 (by decide) (by decide) (by decide) rfl (by decide) ?_ (fun hc11 => ?_)
  · refine g_aload_n (pc := 140) C dX8_told_140 rfl 0 rfl ?_
    refine gf_X8_57 (pc := 141) (u := 39) C kd_0 rfl dX8_told_141 ?_
    refine g_iconst (pc := 144) C dX8_told_144 ic_iconst_m1 ?_
    refine g_iconst (pc := 145) C dX8_told_145 ic_iconst_0 ?_
    refine g_callR (pc := 146) C (g_runVN (stk := []) C (c_X2_widthsIf F (-1 : Int32) (0 : Int32) M) rfl rfl rfl kd_39 rfl wC_X2_widthsIf wI_X2_widthsIf wV_X2_widthsIf wi_X2 wnm_X8_142 hy_X2_widthsIf (by decide) (Nat.le_of_ble_eq_true rfl) dX8_told_146) (fun r12 => ?_)
    exact g_iret (pc := 149) C dX8_told_149 rfl rfl
  refine g_dflt (pc := 1) (tgt := 150) C dX8_told_1 (by omega) (by decide) ?_
  refine g_ldc (pc := 150) C wk_X8_94 dX8_told_150 ?_
  exact g_iret (pc := 152) C dX8_told_152 rfl rfl

