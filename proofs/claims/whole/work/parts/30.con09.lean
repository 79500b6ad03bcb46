/-! X9_fault -/
set_option maxRecDepth 100000 in
set_option maxHeartbeats 4000000 in
theorem c_X9_fault   (M : gM) : gCt yX9_fault cX9_fault 1 (some .int) 0 0 (fun ad K V => [.ref (ad 95)]) rvR (rMR M) M (f_X9_fault M) := by
  refine g_met (y := yX9_fault) (by decide +kernel) (fun _ _ _ => Nat.le_of_ble_eq_true rfl) (fun X C => ?_)
  show G X (gQm X rvR (rMR M)) 1 M [(0, .ref (xad X 95))] [] 0 (f_X9_fault M)
  unfold f_X9_fault
  refine g_aload_n (pc := 0) C dX9_fault_0 rfl 0 rfl ?_
  refine gf_X9_53 (pc := 1) C kd_95 dX9_fault_1 ?_
  exact g_iret (pc := 4) C dX9_fault_4 rfl rfl

/-! X9_feed -/
set_option maxRecDepth 100000 in
set_option maxHeartbeats 4000000 in
theorem g_X9_feed_h35_b {X : gX} (C : gC X cX9_feed RX9 5 (some .int) 1 25) (F : Nat) (a0 : Int32) (a1 : Int64) (k35 : Int32 → gM → Option (Int32 × gM)) (hk35 : ∀ (x4 : Int32) (M : gM), G X (gQm X rvW rMW) 5 M [(0, .ref (xad X 95)), (2, .long a1), (4, .int x4)] [] 35 (k35 x4 M)) (x4 : Int32) (M : gM) : G X (gQm X rvW rMW) 5 M [(0, .ref (xad X 95)), (2, .long a1), (4, .int x4)] [] 35 (f_X9_feed_h35_b F a0 a1 k35 x4 M) := by
  unfold f_X9_feed_h35_b
  refine g_iload (pc := 35) C dX9_feed_35 2 rfl ?_
  refine g_if_lt (pc := 37) (tgt := 77) C dX9_feed_37 (by decide) ?_ ?_
  · refine g_aload_n (pc := 77) C dX9_feed_77 rfl 0 rfl ?_
    refine gf_X9_94 (pc := 78) C kd_95 dX9_feed_78 ?_
    exact g_iret (pc := 81) C dX9_feed_81 rfl rfl
  · refine g_aload_n (pc := 40) C dX9_feed_40 rfl 0 rfl ?_
    refine gf_X9_50 (pc := 41) (u := 109) C kd_95 rfl dX9_feed_41 ?_
    refine g_aload_n (pc := 44) C dX9_feed_44 rfl 0 rfl ?_
    refine gf_X9_94 (pc := 45) C kd_95 dX9_feed_45 ?_
    refine g_lload_n (pc := 48) C dX9_feed_48 rfl 1 rfl ?_
    refine g_bipush (pc := 49) C dX9_feed_49 ic_bipush_8 ?_
    refine g_iload (pc := 51) C dX9_feed_51 2 rfl ?_
    refine g_imul (pc := 53) C dX9_feed_53 ?_
    refine g_lshr (pc := 54) C dX9_feed_54 ?_
    refine g_ldc2 (pc := 55) C wl_X9_98 dX9_feed_55 ?_
    refine g_land (pc := 58) C dX9_feed_58 ?_
    refine g_l2i (pc := 59) C dX9_feed_59 ?_
    refine g_iast (pc := 60) C kd_109 dX9_feed_60 ?_
    refine g_ltM (fun M3 => ?_)
    refine g_aload_n (pc := 61) C dX9_feed_61 rfl 0 rfl ?_
    refine g_dup (pc := 62) C dX9_feed_62 rfl ?_
    refine gf_X9_94 (pc := 63) C kd_95 dX9_feed_63 ?_
    refine g_iconst (pc := 66) C dX9_feed_66 ic_iconst_1 ?_
    refine g_iadd (pc := 67) C dX9_feed_67 ?_
    refine gp_X9_94 (pc := 68) C kd_95 dX9_feed_68 ?_
    refine g_ltM (fun M4 => ?_)
    refine g_iinc (pc := 71) (j := 2) (lv' := [(4, .int (x4 + (-1 : Int32))), (0, .ref (xad X 95)), (2, .long a1)]) C dX9_feed_71 rfl (ii_m1 _) (by decide) rfl ?_
    refine g_goto (pc := 74) (tgt := 35) C dX9_feed_74 (by decide) ?_
    refine g_sub (lv' := [(0, .ref (xad X 95)), (2, .long a1), (4, .int (x4 + (-1 : Int32)))]) [1, 2, 0] rfl ?_
    exact hk35 (x4 + (-1 : Int32)) M4

theorem g_X9_feed_h35 {X : gX} (C : gC X cX9_feed RX9 5 (some .int) 1 25) (F : Nat) (a0 : Int32) (a1 : Int64) : ∀ (n : Nat) (x4 : Int32) (M : gM), G X (gQm X rvW rMW) 5 M [(0, .ref (xad X 95)), (2, .long a1), (4, .int x4)] [] 35 (f_X9_feed_h35 F a0 a1 n x4 M) := by
  intro n
  induction n with
  | zero =>
    intro x4 M r hr
    have hr2 : (none : Option (Int32 × gM)) = some r := hr
    cases hr2
  | succ n ih =>
    intro x4 M
    exact g_X9_feed_h35_b C F a0 a1 _ ih x4 M
set_option maxRecDepth 100000 in
set_option maxHeartbeats 4000000 in
theorem c_X9_feed (F : Nat) (a0 : Int32) (a1 : Int64)  (M : gM) : gCt yX9_feed cX9_feed 5 (some .int) 1 25 (fun ad K V => [.ref (ad 95), .int a0, .long a1]) rvW rMW M (f_X9_feed F a0 a1 M) := by
  refine g_met (y := yX9_feed) (by decide +kernel) (fun _ _ _ => Nat.le_of_ble_eq_true rfl) (fun X C => ?_)
  show G X (gQm X rvW rMW) 5 M [(0, .ref (xad X 95)), (1, .int a0), (2, .long a1)] [] 0 (f_X9_feed F a0 a1 M)
  unfold f_X9_feed
  refine g_iload_n (pc := 0) C dX9_feed_0 rfl 1 rfl ?_
  refine g_i2l (pc := 1) C dX9_feed_1 ?_
  refine g_lconst (pc := 2) (v := 1) C dX9_feed_2 rfl ?_
  refine g_ldc2 (pc := 3) C wl_X9_87 dX9_feed_3 ?_
  refine g_callR (pc := 6) C (g_runS (stk := []) C (c_X9_in a0.toInt64 (1 : Int64) (8 : Int64) M) rfl rfl rfl wC_X9_in wS_X9_in wi_X9 wm_X9_89 hy_X9_in (by decide) (Nat.le_of_ble_eq_true rfl) dX9_feed_6) (fun r1 => ?_)
  refine g_if_ne (pc := 9) (tgt := 15) C dX9_feed_9 (by decide) ?_ ?_
  · refine g_aload_n (pc := 15) C dX9_feed_15 rfl 0 rfl ?_
    refine gf_X9_94 (pc := 16) C kd_95 dX9_feed_16 ?_
    refine g_iload_n (pc := 19) C dX9_feed_19 rfl 1 rfl ?_
    refine g_iadd (pc := 20) C dX9_feed_20 ?_
    refine g_sipush (pc := 21) C dX9_feed_21 ic_sipush_400 ?_
    refine g_icmp_le (pc := 24) (tgt := 30) C dX9_feed_24 (by decide) ?_ ?_
    · refine g_iload_n (pc := 30) C dX9_feed_30 rfl 1 rfl ?_
      refine g_iconst (pc := 31) C dX9_feed_31 ic_iconst_1 ?_
      refine g_isub (pc := 32) C dX9_feed_32 ?_
      refine g_lt (fun v2 => ?_)
      refine g_istore (pc := 33) (lv' := [(4, .int v2), (0, .ref (xad X 95)), (1, .int a0), (2, .long a1)]) C dX9_feed_33 (by decide) rfl ?_
      refine g_sub (lv' := [(0, .ref (xad X 95)), (2, .long a1), (4, .int v2)]) [1, 3, 0] rfl ?_
      exact g_X9_feed_h35 C F a0 a1 F v2 M
    · refine g_ldc (pc := 27) C wk_X9_97 dX9_feed_27 ?_
      exact g_iret (pc := 29) C dX9_feed_29 rfl rfl
  · refine g_ldc (pc := 12) C wk_X9_93 dX9_feed_12 ?_
    exact g_iret (pc := 14) C dX9_feed_14 rfl rfl

/-! X9_findLooks -/
set_option maxRecDepth 100000 in
set_option maxHeartbeats 4000000 in
theorem g_X9_findLooks_b75 {X : gX} (C : gC X cX9_findLooks RX9 5 none 1 21) (F : Nat) (k7 : Int32 → gM → Option gM) (k19 : Int32 → Int32 → gM → Option gM) (k31 : Int32 → Int32 → Int32 → gM → Option gM) (hk7 : ∀ (x1 : Int32) (M : gM), G X (gQm X rvV rMV) 5 M [(0, .ref (xad X 95)), (1, .int x1)] [] 7 (k7 x1 M)) (hk19 : ∀ (x1 : Int32) (x2 : Int32) (M : gM), G X (gQm X rvV rMV) 5 M [(0, .ref (xad X 95)), (1, .int x1), (2, .int x2)] [] 19 (k19 x1 x2 M)) (hk31 : ∀ (x1 : Int32) (x2 : Int32) (x3 : Int32) (M : gM), G X (gQm X rvV rMV) 5 M [(0, .ref (xad X 95)), (1, .int x1), (2, .int x2), (3, .int x3)] [] 31 (k31 x1 x2 x3 M)) (x1 : Int32) (x2 : Int32) (x3 : Int32) (s0 : Int32) (M : gM) : G X (gQm X rvV rMV) 5 M [(0, .ref (xad X 95)), (1, .int x1), (2, .int x2), (3, .int x3)] [.int s0] 75 (f_X9_findLooks_b75 F k7 k19 k31 x1 x2 x3 s0 M) := by
  unfold f_X9_findLooks_b75
  refine g_istore (pc := 75) (lv' := [(4, .int s0), (0, .ref (xad X 95)), (1, .int x1), (2, .int x2), (3, .int x3)]) C dX9_findLooks_75 (by decide) rfl ?_
  refine g_iload (pc := 77) C dX9_findLooks_77 0 rfl ?_
  refine g_if_eq (pc := 79) (tgt := 151) C dX9_findLooks_79 (by decide) ?_ ?_
  · refine g_iinc (pc := 151) (j := 4) (lv' := [(3, .int (x3 + (1 : Int32))), (4, .int s0), (0, .ref (xad X 95)), (1, .int x1), (2, .int x2)]) C dX9_findLooks_151 rfl (ii_1 _) (by decide) rfl ?_
    refine g_goto (pc := 154) (tgt := 31) C dX9_findLooks_154 (by decide) ?_
    refine g_sub (lv' := [(0, .ref (xad X 95)), (1, .int x1), (2, .int x2), (3, .int (x3 + (1 : Int32)))]) [2, 3, 4, 0] rfl ?_
    exact hk31 x1 x2 (x3 + (1 : Int32)) M
  · refine g_aload_n (pc := 82) C dX9_findLooks_82 rfl 1 rfl ?_
    refine gf_X9_35 (pc := 83) (u := 104) C kd_95 rfl dX9_findLooks_83 ?_
    refine g_iload_n (pc := 86) C dX9_findLooks_86 rfl 2 rfl ?_
    refine g_iald (pc := 87) C kd_104 dX9_findLooks_87 ?_
    refine g_iload_n (pc := 88) C dX9_findLooks_88 rfl 3 rfl ?_
    refine g_callR (pc := 89) C (g_runS (stk := []) C (c_X9_has (M 104 x1.toNatClampNeg) x2 M) rfl rfl rfl wC_X9_has wS_X9_has wi_X9 wm_X9_140 hy_X9_has (by decide) (Nat.le_of_ble_eq_true rfl) dX9_findLooks_89) (fun r2 => ?_)
    refine g_if_ne (pc := 92) (tgt := 151) C dX9_findLooks_92 (by decide) ?_ ?_
    · refine g_iinc (pc := 151) (j := 4) (lv' := [(3, .int (x3 + (1 : Int32))), (4, .int s0), (0, .ref (xad X 95)), (1, .int x1), (2, .int x2)]) C dX9_findLooks_151 rfl (ii_1 _) (by decide) rfl ?_
      refine g_goto (pc := 154) (tgt := 31) C dX9_findLooks_154 (by decide) ?_
      refine g_sub (lv' := [(0, .ref (xad X 95)), (1, .int x1), (2, .int x2), (3, .int (x3 + (1 : Int32)))]) [2, 3, 4, 0] rfl ?_
      exact hk31 x1 x2 (x3 + (1 : Int32)) M
    · refine g_aload_n (pc := 95) C dX9_findLooks_95 rfl 1 rfl ?_
      refine gf_X9_35 (pc := 96) (u := 104) C kd_95 rfl dX9_findLooks_96 ?_
      refine g_iload_n (pc := 99) C dX9_findLooks_99 rfl 2 rfl ?_
      refine g_iald (pc := 100) C kd_104 dX9_findLooks_100 ?_
      refine g_iload_n (pc := 101) C dX9_findLooks_101 rfl 4 rfl ?_
      refine g_callR (pc := 102) C (g_runS (stk := []) C (c_X9_has (M 104 x1.toNatClampNeg) x3 M) rfl rfl rfl wC_X9_has wS_X9_has wi_X9 wm_X9_140 hy_X9_has (by decide) (Nat.le_of_ble_eq_true rfl) dX9_findLooks_102) (fun r3 => ?_)
      refine g_if_ne (pc := 105) (tgt := 151) C dX9_findLooks_105 (by decide) ?_ ?_
      · refine g_iinc (pc := 151) (j := 4) (lv' := [(3, .int (x3 + (1 : Int32))), (4, .int s0), (0, .ref (xad X 95)), (1, .int x1), (2, .int x2)]) C dX9_findLooks_151 rfl (ii_1 _) (by decide) rfl ?_
        refine g_goto (pc := 154) (tgt := 31) C dX9_findLooks_154 (by decide) ?_
        refine g_sub (lv' := [(0, .ref (xad X 95)), (1, .int x1), (2, .int x2), (3, .int (x3 + (1 : Int32)))]) [2, 3, 4, 0] rfl ?_
        exact hk31 x1 x2 (x3 + (1 : Int32)) M
      · refine g_aload_n (pc := 108) C dX9_findLooks_108 rfl 1 rfl ?_
        refine gf_X9_35 (pc := 109) (u := 104) C kd_95 rfl dX9_findLooks_109 ?_
        refine g_iload_n (pc := 112) C dX9_findLooks_112 rfl 3 rfl ?_
        refine g_iald (pc := 113) C kd_104 dX9_findLooks_113 ?_
        refine g_iload_n (pc := 114) C dX9_findLooks_114 rfl 4 rfl ?_
        refine g_callR (pc := 115) C (g_runS (stk := []) C (c_X9_has (M 104 x2.toNatClampNeg) x3 M) rfl rfl rfl wC_X9_has wS_X9_has wi_X9 wm_X9_140 hy_X9_has (by decide) (Nat.le_of_ble_eq_true rfl) dX9_findLooks_115) (fun r4 => ?_)
        refine g_if_ne (pc := 118) (tgt := 151) C dX9_findLooks_118 (by decide) ?_ ?_
        · refine g_iinc (pc := 151) (j := 4) (lv' := [(3, .int (x3 + (1 : Int32))), (4, .int s0), (0, .ref (xad X 95)), (1, .int x1), (2, .int x2)]) C dX9_findLooks_151 rfl (ii_1 _) (by decide) rfl ?_
          refine g_goto (pc := 154) (tgt := 31) C dX9_findLooks_154 (by decide) ?_
          refine g_sub (lv' := [(0, .ref (xad X 95)), (1, .int x1), (2, .int x2), (3, .int (x3 + (1 : Int32)))]) [2, 3, 4, 0] rfl ?_
          exact hk31 x1 x2 (x3 + (1 : Int32)) M
        · refine g_aload_n (pc := 121) C dX9_findLooks_121 rfl 1 rfl ?_
          refine gf_X9_57 (pc := 122) (u := 110) C kd_95 rfl dX9_findLooks_122 ?_
          refine g_aload_n (pc := 125) C dX9_findLooks_125 rfl 1 rfl ?_
          refine gf_X9_165 (pc := 126) C kd_95 dX9_findLooks_126 ?_
          refine g_iconst (pc := 129) C dX9_findLooks_129 ic_iconst_1 ?_
          refine g_iload_n (pc := 130) C dX9_findLooks_130 rfl 2 rfl ?_
          refine g_ishl (pc := 131) C dX9_findLooks_131 ?_
          refine g_iconst (pc := 132) C dX9_findLooks_132 ic_iconst_1 ?_
          refine g_iload_n (pc := 133) C dX9_findLooks_133 rfl 3 rfl ?_
          refine g_ishl (pc := 134) C dX9_findLooks_134 ?_
          refine g_ior (pc := 135) C dX9_findLooks_135 ?_
          refine g_iconst (pc := 136) C dX9_findLooks_136 ic_iconst_1 ?_
          refine g_iload_n (pc := 137) C dX9_findLooks_137 rfl 4 rfl ?_
          refine g_ishl (pc := 138) C dX9_findLooks_138 ?_
          refine g_ior (pc := 139) C dX9_findLooks_139 ?_
          refine g_iast (pc := 140) C kd_110 dX9_findLooks_140 ?_
          refine g_ltM (fun M5 => ?_)
          refine g_aload_n (pc := 141) C dX9_findLooks_141 rfl 1 rfl ?_
          refine g_dup (pc := 142) C dX9_findLooks_142 rfl ?_
          refine gf_X9_165 (pc := 143) C kd_95 dX9_findLooks_143 ?_
          refine g_iconst (pc := 146) C dX9_findLooks_146 ic_iconst_1 ?_
          refine g_iadd (pc := 147) C dX9_findLooks_147 ?_
          refine gp_X9_165 (pc := 148) C kd_95 dX9_findLooks_148 ?_
          refine g_ltM (fun M6 => ?_)
          refine g_iinc (pc := 151) (j := 4) (lv' := [(3, .int (x3 + (1 : Int32))), (4, .int s0), (0, .ref (xad X 95)), (1, .int x1), (2, .int x2)]) C dX9_findLooks_151 rfl (ii_1 _) (by decide) rfl ?_
          refine g_goto (pc := 154) (tgt := 31) C dX9_findLooks_154 (by decide) ?_
          refine g_sub (lv' := [(0, .ref (xad X 95)), (1, .int x1), (2, .int x2), (3, .int (x3 + (1 : Int32)))]) [2, 3, 4, 0] rfl ?_
          exact hk31 x1 x2 (x3 + (1 : Int32)) M6

set_option maxRecDepth 100000 in
set_option maxHeartbeats 4000000 in
theorem g_X9_findLooks_b74 {X : gX} (C : gC X cX9_findLooks RX9 5 none 1 21) (F : Nat) (k7 : Int32 → gM → Option gM) (k19 : Int32 → Int32 → gM → Option gM) (k31 : Int32 → Int32 → Int32 → gM → Option gM) (hk7 : ∀ (x1 : Int32) (M : gM), G X (gQm X rvV rMV) 5 M [(0, .ref (xad X 95)), (1, .int x1)] [] 7 (k7 x1 M)) (hk19 : ∀ (x1 : Int32) (x2 : Int32) (M : gM), G X (gQm X rvV rMV) 5 M [(0, .ref (xad X 95)), (1, .int x1), (2, .int x2)] [] 19 (k19 x1 x2 M)) (hk31 : ∀ (x1 : Int32) (x2 : Int32) (x3 : Int32) (M : gM), G X (gQm X rvV rMV) 5 M [(0, .ref (xad X 95)), (1, .int x1), (2, .int x2), (3, .int x3)] [] 31 (k31 x1 x2 x3 M)) (x1 : Int32) (x2 : Int32) (x3 : Int32) (M : gM) : G X (gQm X rvV rMV) 5 M [(0, .ref (xad X 95)), (1, .int x1), (2, .int x2), (3, .int x3)] [] 74 (f_X9_findLooks_b74 F k7 k19 k31 x1 x2 x3 M) := by
  unfold f_X9_findLooks_b74
  refine g_iconst (pc := 74) C dX9_findLooks_74 ic_iconst_0 ?_
  exact g_X9_findLooks_b75 C F k7 k19 k31 hk7 hk19 hk31 x1 x2 x3 (0 : Int32) M

set_option maxRecDepth 100000 in
set_option maxHeartbeats 4000000 in
theorem g_X9_findLooks_h31_b {X : gX} (C : gC X cX9_findLooks RX9 5 none 1 21) (F : Nat) (k7 : Int32 → gM → Option gM) (k19 : Int32 → Int32 → gM → Option gM) (hk7 : ∀ (x1 : Int32) (M : gM), G X (gQm X rvV rMV) 5 M [(0, .ref (xad X 95)), (1, .int x1)] [] 7 (k7 x1 M)) (hk19 : ∀ (x1 : Int32) (x2 : Int32) (M : gM), G X (gQm X rvV rMV) 5 M [(0, .ref (xad X 95)), (1, .int x1), (2, .int x2)] [] 19 (k19 x1 x2 M)) (k31 : Int32 → Int32 → Int32 → gM → Option gM) (hk31 : ∀ (x1 : Int32) (x2 : Int32) (x3 : Int32) (M : gM), G X (gQm X rvV rMV) 5 M [(0, .ref (xad X 95)), (1, .int x1), (2, .int x2), (3, .int x3)] [] 31 (k31 x1 x2 x3 M)) (x1 : Int32) (x2 : Int32) (x3 : Int32) (M : gM) : G X (gQm X rvV rMV) 5 M [(0, .ref (xad X 95)), (1, .int x1), (2, .int x2), (3, .int x3)] [] 31 (f_X9_findLooks_h31_b F k7 k19 k31 x1 x2 x3 M) := by
  unfold f_X9_findLooks_h31_b
  refine g_iload_n (pc := 31) C dX9_findLooks_31 rfl 3 rfl ?_
  refine g_aload_n (pc := 32) C dX9_findLooks_32 rfl 0 rfl ?_
  refine gf_X9_47 (pc := 33) (u := 108) C kd_95 rfl dX9_findLooks_33 ?_
  refine g_iconst (pc := 36) C dX9_findLooks_36 ic_iconst_0 ?_
  refine g_iald (pc := 37) C kd_108 dX9_findLooks_37 ?_
  refine g_icmp_ge (pc := 38) (tgt := 157) C dX9_findLooks_38 (by decide) ?_ ?_
  · refine g_iinc (pc := 157) (j := 2) (lv' := [(2, .int (x2 + (1 : Int32))), (0, .ref (xad X 95)), (1, .int x1), (3, .int x3)]) C dX9_findLooks_157 rfl (ii_1 _) (by decide) rfl ?_
    refine g_goto (pc := 160) (tgt := 19) C dX9_findLooks_160 (by decide) ?_
    refine g_sub (lv' := [(0, .ref (xad X 95)), (1, .int x1), (2, .int (x2 + (1 : Int32)))]) [1, 2, 0] rfl ?_
    exact hk19 x1 (x2 + (1 : Int32)) M
  · refine g_aload_n (pc := 41) C dX9_findLooks_41 rfl 0 rfl ?_
    refine gf_X9_17 (pc := 42) (u := 98) C kd_95 rfl dX9_findLooks_42 ?_
    refine g_iload_n (pc := 45) C dX9_findLooks_45 rfl 1 rfl ?_
    refine g_iald (pc := 46) C kd_98 dX9_findLooks_46 ?_
    refine g_if_ne (pc := 47) (tgt := 74) C dX9_findLooks_47 (by decide) ?_ ?_
    · exact g_X9_findLooks_b74 C F k7 k19 k31 hk7 hk19 hk31 x1 x2 x3 M
    · refine g_aload_n (pc := 50) C dX9_findLooks_50 rfl 0 rfl ?_
      refine gf_X9_17 (pc := 51) (u := 98) C kd_95 rfl dX9_findLooks_51 ?_
      refine g_iload_n (pc := 54) C dX9_findLooks_54 rfl 2 rfl ?_
      refine g_iald (pc := 55) C kd_98 dX9_findLooks_55 ?_
      refine g_iconst (pc := 56) C dX9_findLooks_56 ic_iconst_1 ?_
      refine g_icmp_ne (pc := 57) (tgt := 74) C dX9_findLooks_57 (by decide) ?_ ?_
      · exact g_X9_findLooks_b74 C F k7 k19 k31 hk7 hk19 hk31 x1 x2 x3 M
      · refine g_aload_n (pc := 60) C dX9_findLooks_60 rfl 0 rfl ?_
        refine gf_X9_17 (pc := 61) (u := 98) C kd_95 rfl dX9_findLooks_61 ?_
        refine g_iload_n (pc := 64) C dX9_findLooks_64 rfl 3 rfl ?_
        refine g_iald (pc := 65) C kd_98 dX9_findLooks_65 ?_
        refine g_iconst (pc := 66) C dX9_findLooks_66 ic_iconst_2 ?_
        refine g_icmp_ne (pc := 67) (tgt := 74) C dX9_findLooks_67 (by decide) ?_ ?_
        · exact g_X9_findLooks_b74 C F k7 k19 k31 hk7 hk19 hk31 x1 x2 x3 M
        · refine g_iconst (pc := 70) C dX9_findLooks_70 ic_iconst_1 ?_
          refine g_goto (pc := 71) (tgt := 75) C dX9_findLooks_71 (by decide) ?_
          exact g_X9_findLooks_b75 C F k7 k19 k31 hk7 hk19 hk31 x1 x2 x3 (1 : Int32) M

theorem g_X9_findLooks_h31 {X : gX} (C : gC X cX9_findLooks RX9 5 none 1 21) (F : Nat) (k7 : Int32 → gM → Option gM) (k19 : Int32 → Int32 → gM → Option gM) (hk7 : ∀ (x1 : Int32) (M : gM), G X (gQm X rvV rMV) 5 M [(0, .ref (xad X 95)), (1, .int x1)] [] 7 (k7 x1 M)) (hk19 : ∀ (x1 : Int32) (x2 : Int32) (M : gM), G X (gQm X rvV rMV) 5 M [(0, .ref (xad X 95)), (1, .int x1), (2, .int x2)] [] 19 (k19 x1 x2 M)) : ∀ (n : Nat) (x1 : Int32) (x2 : Int32) (x3 : Int32) (M : gM), G X (gQm X rvV rMV) 5 M [(0, .ref (xad X 95)), (1, .int x1), (2, .int x2), (3, .int x3)] [] 31 (f_X9_findLooks_h31 F k7 k19 n x1 x2 x3 M) := by
  intro n
  induction n with
  | zero =>
    intro x1 x2 x3 M r hr
    have hr2 : (none : Option gM) = some r := hr
    cases hr2
  | succ n ih =>
    intro x1 x2 x3 M
    exact g_X9_findLooks_h31_b C F k7 k19 hk7 hk19 _ ih x1 x2 x3 M
set_option maxRecDepth 100000 in
set_option maxHeartbeats 4000000 in
theorem g_X9_findLooks_h19_b {X : gX} (C : gC X cX9_findLooks RX9 5 none 1 21) (F : Nat) (k7 : Int32 → gM → Option gM) (hk7 : ∀ (x1 : Int32) (M : gM), G X (gQm X rvV rMV) 5 M [(0, .ref (xad X 95)), (1, .int x1)] [] 7 (k7 x1 M)) (k19 : Int32 → Int32 → gM → Option gM) (hk19 : ∀ (x1 : Int32) (x2 : Int32) (M : gM), G X (gQm X rvV rMV) 5 M [(0, .ref (xad X 95)), (1, .int x1), (2, .int x2)] [] 19 (k19 x1 x2 M)) (x1 : Int32) (x2 : Int32) (M : gM) : G X (gQm X rvV rMV) 5 M [(0, .ref (xad X 95)), (1, .int x1), (2, .int x2)] [] 19 (f_X9_findLooks_h19_b F k7 k19 x1 x2 M) := by
  unfold f_X9_findLooks_h19_b
  refine g_iload_n (pc := 19) C dX9_findLooks_19 rfl 2 rfl ?_
  refine g_aload_n (pc := 20) C dX9_findLooks_20 rfl 0 rfl ?_
  refine gf_X9_47 (pc := 21) (u := 108) C kd_95 rfl dX9_findLooks_21 ?_
  refine g_iconst (pc := 24) C dX9_findLooks_24 ic_iconst_0 ?_
  refine g_iald (pc := 25) C kd_108 dX9_findLooks_25 ?_
  refine g_icmp_ge (pc := 26) (tgt := 163) C dX9_findLooks_26 (by decide) ?_ ?_
  · refine g_iinc (pc := 163) (j := 1) (lv' := [(1, .int (x1 + (1 : Int32))), (0, .ref (xad X 95)), (2, .int x2)]) C dX9_findLooks_163 rfl (ii_1 _) (by decide) rfl ?_
    refine g_goto (pc := 166) (tgt := 7) C dX9_findLooks_166 (by decide) ?_
    refine g_sub (lv' := [(0, .ref (xad X 95)), (1, .int (x1 + (1 : Int32)))]) [1, 0] rfl ?_
    exact hk7 (x1 + (1 : Int32)) M
  · refine g_iconst (pc := 29) C dX9_findLooks_29 ic_iconst_0 ?_
    refine g_istore_n (pc := 30) (lv' := [(3, .int (0 : Int32)), (0, .ref (xad X 95)), (1, .int x1), (2, .int x2)]) C dX9_findLooks_30 rfl (by decide) rfl ?_
    refine g_sub (lv' := [(0, .ref (xad X 95)), (1, .int x1), (2, .int x2), (3, .int (0 : Int32))]) [1, 2, 3, 0] rfl ?_
    exact g_X9_findLooks_h31 C F k7 k19 hk7 hk19 F x1 x2 (0 : Int32) M

theorem g_X9_findLooks_h19 {X : gX} (C : gC X cX9_findLooks RX9 5 none 1 21) (F : Nat) (k7 : Int32 → gM → Option gM) (hk7 : ∀ (x1 : Int32) (M : gM), G X (gQm X rvV rMV) 5 M [(0, .ref (xad X 95)), (1, .int x1)] [] 7 (k7 x1 M)) : ∀ (n : Nat) (x1 : Int32) (x2 : Int32) (M : gM), G X (gQm X rvV rMV) 5 M [(0, .ref (xad X 95)), (1, .int x1), (2, .int x2)] [] 19 (f_X9_findLooks_h19 F k7 n x1 x2 M) := by
  intro n
  induction n with
  | zero =>
    intro x1 x2 M r hr
    have hr2 : (none : Option gM) = some r := hr
    cases hr2
  | succ n ih =>
    intro x1 x2 M
    exact g_X9_findLooks_h19_b C F k7 hk7 _ ih x1 x2 M
set_option maxRecDepth 100000 in
set_option maxHeartbeats 4000000 in
theorem g_X9_findLooks_h7_b {X : gX} (C : gC X cX9_findLooks RX9 5 none 1 21) (F : Nat) (k7 : Int32 → gM → Option gM) (hk7 : ∀ (x1 : Int32) (M : gM), G X (gQm X rvV rMV) 5 M [(0, .ref (xad X 95)), (1, .int x1)] [] 7 (k7 x1 M)) (x1 : Int32) (M : gM) : G X (gQm X rvV rMV) 5 M [(0, .ref (xad X 95)), (1, .int x1)] [] 7 (f_X9_findLooks_h7_b F k7 x1 M) := by
  unfold f_X9_findLooks_h7_b
  refine g_iload_n (pc := 7) C dX9_findLooks_7 rfl 1 rfl ?_
  refine g_aload_n (pc := 8) C dX9_findLooks_8 rfl 0 rfl ?_
  refine gf_X9_47 (pc := 9) (u := 108) C kd_95 rfl dX9_findLooks_9 ?_
  refine g_iconst (pc := 12) C dX9_findLooks_12 ic_iconst_0 ?_
  refine g_iald (pc := 13) C kd_108 dX9_findLooks_13 ?_
  refine g_icmp_ge (pc := 14) (tgt := 169) C dX9_findLooks_14 (by decide) ?_ ?_
  · exact g_vret (pc := 169) C dX9_findLooks_169 rfl rfl
  · refine g_iconst (pc := 17) C dX9_findLooks_17 ic_iconst_0 ?_
    refine g_istore_n (pc := 18) (lv' := [(2, .int (0 : Int32)), (0, .ref (xad X 95)), (1, .int x1)]) C dX9_findLooks_18 rfl (by decide) rfl ?_
    refine g_sub (lv' := [(0, .ref (xad X 95)), (1, .int x1), (2, .int (0 : Int32))]) [1, 2, 0] rfl ?_
    exact g_X9_findLooks_h19 C F k7 hk7 F x1 (0 : Int32) M

theorem g_X9_findLooks_h7 {X : gX} (C : gC X cX9_findLooks RX9 5 none 1 21) (F : Nat) : ∀ (n : Nat) (x1 : Int32) (M : gM), G X (gQm X rvV rMV) 5 M [(0, .ref (xad X 95)), (1, .int x1)] [] 7 (f_X9_findLooks_h7 F n x1 M) := by
  intro n
  induction n with
  | zero =>
    intro x1 M r hr
    have hr2 : (none : Option gM) = some r := hr
    cases hr2
  | succ n ih =>
    intro x1 M
    exact g_X9_findLooks_h7_b C F _ ih x1 M
set_option maxRecDepth 100000 in
set_option maxHeartbeats 4000000 in
theorem c_X9_findLooks (F : Nat)  (M : gM) : gCt yX9_findLooks cX9_findLooks 5 none 1 21 (fun ad K V => [.ref (ad 95)]) rvV rMV M (f_X9_findLooks F M) := by
  refine g_met (y := yX9_findLooks) (by decide +kernel) (fun _ _ _ => Nat.le_of_ble_eq_true rfl) (fun X C => ?_)
  show G X (gQm X rvV rMV) 5 M [(0, .ref (xad X 95))] [] 0 (f_X9_findLooks F M)
  unfold f_X9_findLooks
  refine g_aload_n (pc := 0) C dX9_findLooks_0 rfl 0 rfl ?_
  refine g_iconst (pc := 1) C dX9_findLooks_1 ic_iconst_0 ?_
  refine gp_X9_165 (pc := 2) C kd_95 dX9_findLooks_2 ?_
  refine g_ltM (fun M1 => ?_)
  refine g_iconst (pc := 5) C dX9_findLooks_5 ic_iconst_0 ?_
  refine g_istore_n (pc := 6) (lv' := [(1, .int (0 : Int32)), (0, .ref (xad X 95))]) C dX9_findLooks_6 rfl (by decide) rfl ?_
  refine g_sub (lv' := [(0, .ref (xad X 95)), (1, .int (0 : Int32))]) [1, 0] rfl ?_
  exact g_X9_findLooks_h7 C F F (0 : Int32) M1

/-! X9_goBack -/
set_option maxRecDepth 100000 in
set_option maxHeartbeats 4000000 in
theorem c_X9_goBack (F : Nat) (a0 : Int32)  (M : gM) : gCt yX9_goBack cX9_goBack 2 (some .int) 1 25 (fun ad K V => [.ref (ad 95), .int a0]) rvW rMW M (f_X9_goBack F a0 M) := by
  refine g_met (y := yX9_goBack) (by decide +kernel) (fun _ _ _ => Nat.le_of_ble_eq_true rfl) (fun X C => ?_)
  show G X (gQm X rvW rMW) 2 M [(0, .ref (xad X 95)), (1, .int a0)] [] 0 (f_X9_goBack F a0 M)
  unfold f_X9_goBack
  refine g_iload_n (pc := 0) C dX9_goBack_0 rfl 1 rfl ?_
  refine g_i2l (pc := 1) C dX9_goBack_1 ?_
  refine g_lconst (pc := 2) (v := 0) C dX9_goBack_2 rfl ?_
  refine g_lconst (pc := 3) (v := 1) C dX9_goBack_3 rfl ?_
  refine g_callR (pc := 4) C (g_runS (stk := []) C (c_X9_in a0.toInt64 (0 : Int64) (1 : Int64) M) rfl rfl rfl wC_X9_in wS_X9_in wi_X9 wm_X9_89 hy_X9_in (by decide) (Nat.le_of_ble_eq_true rfl) dX9_goBack_4) (fun r1 => ?_)
  refine g_if_ne (pc := 7) (tgt := 13) C dX9_goBack_7 (by decide) ?_ ?_
  · refine g_aload_n (pc := 13) C dX9_goBack_13 rfl 0 rfl ?_
    refine gf_X9_13 (pc := 14) (u := 97) C kd_95 rfl dX9_goBack_14 ?_
    refine g_iload_n (pc := 17) C dX9_goBack_17 rfl 1 rfl ?_
    refine g_zald (pc := 18) C kd_97 dX9_goBack_18 ?_
    refine g_if_ne (pc := 19) (tgt := 26) C dX9_goBack_19 (by decide) ?_ ?_
    · refine g_aload_n (pc := 26) C dX9_goBack_26 rfl 0 rfl ?_
      refine g_bipush (pc := 27) C dX9_goBack_27 ic_bipush_80 ?_
      refine g_bipush (pc := 29) C dX9_goBack_29 ic_bipush_40 ?_
      refine g_iload_n (pc := 31) C dX9_goBack_31 rfl 1 rfl ?_
      refine g_imul (pc := 32) C dX9_goBack_32 ?_
      refine g_iadd (pc := 33) C dX9_goBack_33 ?_
      refine g_iconst (pc := 34) C dX9_goBack_34 ic_iconst_0 ?_
      refine g_callV (pc := 35) C (g_runV (stk := []) C (c_X9_copy F ((80 : Int32) + ((40 : Int32) * a0)) (0 : Int32) M) rfl rfl rfl kd_95 rfl wC_X9_copy wI_X9_copy wV_X9_copy wi_X9 wm_X9_248 hy_X9_copy (by decide) (Nat.le_of_ble_eq_true rfl) dX9_goBack_35) (fun r2 => ?_)
      refine g_iconst (pc := 38) C dX9_goBack_38 ic_iconst_1 ?_
      exact g_iret (pc := 39) C dX9_goBack_39 rfl rfl
    · refine g_ldcw (pc := 22) C wk_X9_272 dX9_goBack_22 ?_
      exact g_iret (pc := 25) C dX9_goBack_25 rfl rfl
  · refine g_ldc (pc := 10) C wk_X9_188 dX9_goBack_10 ?_
    exact g_iret (pc := 12) C dX9_goBack_12 rfl rfl

/-! X9_widthsIn -/
set_option maxRecDepth 100000 in
set_option maxHeartbeats 4000000 in
theorem g_X9_widthsIn_h4_b {X : gX} (C : gC X cX9_widthsIn RX9 4 (some .int) 2 45) (F : Nat) (a0 : Int32) (M : gM) (k4 : Int32 → Int32 → Option Int32) (hk4 : ∀ (x2 : Int32) (x3 : Int32), G X (gQm X rvR (rMR M)) 4 M [(0, .ref (xad X 95)), (1, .int a0), (2, .int x2), (3, .int x3)] [] 4 (k4 x2 x3)) (x2 : Int32) (x3 : Int32) : G X (gQm X rvR (rMR M)) 4 M [(0, .ref (xad X 95)), (1, .int a0), (2, .int x2), (3, .int x3)] [] 4 (f_X9_widthsIn_h4_b F a0 M k4 x2 x3) := by
  unfold f_X9_widthsIn_h4_b
  refine g_iload_n (pc := 4) C dX9_widthsIn_4 rfl 3 rfl ?_
  refine g_aload_n (pc := 5) C dX9_widthsIn_5 rfl 0 rfl ?_
  refine gf_X9_165 (pc := 6) C kd_95 dX9_widthsIn_6 ?_
  refine g_icmp_ge (pc := 9) (tgt := 34) C dX9_widthsIn_9 (by decide) ?_ ?_
  · refine g_iload_n (pc := 34) C dX9_widthsIn_34 rfl 2 rfl ?_
    exact g_iret (pc := 35) C dX9_widthsIn_35 rfl rfl
  · refine g_iload_n (pc := 12) C dX9_widthsIn_12 rfl 2 rfl ?_
    refine g_iconst (pc := 13) C dX9_widthsIn_13 ic_iconst_1 ?_
    refine g_aload_n (pc := 14) C dX9_widthsIn_14 rfl 0 rfl ?_
    refine g_iload_n (pc := 15) C dX9_widthsIn_15 rfl 1 rfl ?_
    refine g_aload_n (pc := 16) C dX9_widthsIn_16 rfl 0 rfl ?_
    refine gf_X9_57 (pc := 17) (u := 110) C kd_95 rfl dX9_widthsIn_17 ?_
    refine g_iload_n (pc := 20) C dX9_widthsIn_20 rfl 3 rfl ?_
    refine g_iald (pc := 21) C kd_110 dX9_widthsIn_21 ?_
    refine g_callR (pc := 22) C (g_runV (stk := [.int (1 : Int32), .int x2]) C (c_X9_sumOf F a0 (M 110 x3.toNatClampNeg) M) rfl rfl rfl kd_95 rfl wC_X9_sumOf wI_X9_sumOf wV_X9_sumOf wi_X9 wm_X9_171 hy_X9_sumOf (by decide) (Nat.le_of_ble_eq_true rfl) dX9_widthsIn_22) (fun r1 => ?_)
    refine g_ishl (pc := 25) C dX9_widthsIn_25 ?_
    refine g_ior (pc := 26) C dX9_widthsIn_26 ?_
    refine g_lt (fun v2 => ?_)
    refine g_istore_n (pc := 27) (lv' := [(2, .int v2), (0, .ref (xad X 95)), (1, .int a0), (3, .int x3)]) C dX9_widthsIn_27 rfl (by decide) rfl ?_
    refine g_iinc (pc := 28) (j := 3) (lv' := [(3, .int (x3 + (1 : Int32))), (2, .int v2), (0, .ref (xad X 95)), (1, .int a0)]) C dX9_widthsIn_28 rfl (ii_1 _) (by decide) rfl ?_
    refine g_goto (pc := 31) (tgt := 4) C dX9_widthsIn_31 (by decide) ?_
    refine g_sub (lv' := [(0, .ref (xad X 95)), (1, .int a0), (2, .int v2), (3, .int (x3 + (1 : Int32)))]) [2, 3, 1, 0] rfl ?_
    exact hk4 v2 (x3 + (1 : Int32))

theorem g_X9_widthsIn_h4 {X : gX} (C : gC X cX9_widthsIn RX9 4 (some .int) 2 45) (F : Nat) (a0 : Int32) (M : gM) : ∀ (n : Nat) (x2 : Int32) (x3 : Int32), G X (gQm X rvR (rMR M)) 4 M [(0, .ref (xad X 95)), (1, .int a0), (2, .int x2), (3, .int x3)] [] 4 (f_X9_widthsIn_h4 F a0 M n x2 x3) := by
  intro n
  induction n with
  | zero =>
    intro x2 x3 r hr
    have hr2 : (none : Option Int32) = some r := hr
    cases hr2
  | succ n ih =>
    intro x2 x3
    exact g_X9_widthsIn_h4_b C F a0 M _ ih x2 x3
set_option maxRecDepth 100000 in
set_option maxHeartbeats 4000000 in
theorem c_X9_widthsIn (F : Nat) (a0 : Int32)  (M : gM) : gCt yX9_widthsIn cX9_widthsIn 4 (some .int) 2 45 (fun ad K V => [.ref (ad 95), .int a0]) rvR (rMR M) M (f_X9_widthsIn F a0 M) := by
  refine g_met (y := yX9_widthsIn) (by decide +kernel) (fun _ _ _ => Nat.le_of_ble_eq_true rfl) (fun X C => ?_)
  show G X (gQm X rvR (rMR M)) 4 M [(0, .ref (xad X 95)), (1, .int a0)] [] 0 (f_X9_widthsIn F a0 M)
  unfold f_X9_widthsIn
  refine g_iconst (pc := 0) C dX9_widthsIn_0 ic_iconst_0 ?_
  refine g_istore_n (pc := 1) (lv' := [(2, .int (0 : Int32)), (0, .ref (xad X 95)), (1, .int a0)]) C dX9_widthsIn_1 rfl (by decide) rfl ?_
  refine g_iconst (pc := 2) C dX9_widthsIn_2 ic_iconst_0 ?_
  refine g_istore_n (pc := 3) (lv' := [(3, .int (0 : Int32)), (2, .int (0 : Int32)), (0, .ref (xad X 95)), (1, .int a0)]) C dX9_widthsIn_3 rfl (by decide) rfl ?_
  refine g_sub (lv' := [(0, .ref (xad X 95)), (1, .int a0), (2, .int (0 : Int32)), (3, .int (0 : Int32))]) [2, 3, 1, 0] rfl ?_
  exact g_X9_widthsIn_h4 C F a0 M F (0 : Int32) (0 : Int32)

/-! X9_grow -/
set_option maxRecDepth 100000 in
set_option maxHeartbeats 4000000 in
theorem g_X9_grow_h46_b {X : gX} (C : gC X cX9_grow RX9 8 (some .int) 3 68) (F : Nat) (a0 : Int32) (k32 : Int32 → Int32 → Int32 → Int32 → gM → Option (Int32 × gM)) (hk32 : ∀ (x2 : Int32) (x3 : Int32) (x4 : Int32) (x5 : Int32) (M : gM), G X (gQm X rvW rMW) 8 M [(0, .ref (xad X 95)), (1, .int a0), (2, .int x2), (3, .int x3), (4, .int x4), (5, .int x5)] [] 32 (k32 x2 x3 x4 x5 M)) (k46 : Int32 → Int32 → Int32 → Int32 → Int32 → gM → Option (Int32 × gM)) (hk46 : ∀ (x2 : Int32) (x3 : Int32) (x4 : Int32) (x5 : Int32) (x6 : Int32) (M : gM), G X (gQm X rvW rMW) 8 M [(0, .ref (xad X 95)), (1, .int a0), (2, .int x2), (3, .int x3), (4, .int x4), (5, .int x5), (6, .int x6)] [] 46 (k46 x2 x3 x4 x5 x6 M)) (x2 : Int32) (x3 : Int32) (x4 : Int32) (x5 : Int32) (x6 : Int32) (M : gM) : G X (gQm X rvW rMW) 8 M [(0, .ref (xad X 95)), (1, .int a0), (2, .int x2), (3, .int x3), (4, .int x4), (5, .int x5), (6, .int x6)] [] 46 (f_X9_grow_h46_b F a0 k32 k46 x2 x3 x4 x5 x6 M) := by
  unfold f_X9_grow_h46_b
  refine g_iload (pc := 46) C dX9_grow_46 6 rfl ?_
  refine g_bipush (pc := 48) C dX9_grow_48 ic_bipush_9 ?_
  refine g_icmp_gt (pc := 50) (tgt := 99) C dX9_grow_50 (by decide) ?_ ?_
  · refine g_aload_n (pc := 99) C dX9_grow_99 rfl 0 rfl ?_
    refine gf_X9_7 (pc := 100) (u := 96) C kd_95 rfl dX9_grow_100 ?_
    refine g_bipush (pc := 103) C dX9_grow_103 ic_bipush_40 ?_
    refine g_iload (pc := 105) C dX9_grow_105 5 rfl ?_
    refine g_iadd (pc := 107) C dX9_grow_107 ?_
    refine g_aload_n (pc := 108) C dX9_grow_108 rfl 0 rfl ?_
    refine gf_X9_7 (pc := 109) (u := 96) C kd_95 rfl dX9_grow_109 ?_
    refine g_iload (pc := 112) C dX9_grow_112 5 rfl ?_
    refine g_iald (pc := 114) C kd_96 dX9_grow_114 ?_
    refine g_iast (pc := 115) C kd_96 dX9_grow_115 ?_
    refine g_ltM (fun M3 => ?_)
    refine g_iinc (pc := 116) (j := 5) (lv' := [(5, .int (x5 + (1 : Int32))), (0, .ref (xad X 95)), (1, .int a0), (2, .int x2), (3, .int x3), (4, .int x4), (6, .int x6)]) C dX9_grow_116 rfl (ii_1 _) (by decide) rfl ?_
    refine g_goto (pc := 119) (tgt := 32) C dX9_grow_119 (by decide) ?_
    refine g_sub (lv' := [(0, .ref (xad X 95)), (1, .int a0), (2, .int x2), (3, .int x3), (4, .int x4), (5, .int (x5 + (1 : Int32)))]) [1, 2, 3, 4, 5, 0] rfl ?_
    exact hk32 x2 x3 x4 (x5 + (1 : Int32)) M3
  · refine g_aload_n (pc := 53) C dX9_grow_53 rfl 0 rfl ?_
    refine gf_X9_7 (pc := 54) (u := 96) C kd_95 rfl dX9_grow_54 ?_
    refine g_bipush (pc := 57) C dX9_grow_57 ic_bipush_40 ?_
    refine g_iload (pc := 59) C dX9_grow_59 5 rfl ?_
    refine g_iadd (pc := 61) C dX9_grow_61 ?_
    refine g_iload (pc := 62) C dX9_grow_62 6 rfl ?_
    refine g_iast (pc := 64) C kd_96 dX9_grow_64 ?_
    refine g_ltM (fun M4 => ?_)
    refine g_aload_n (pc := 65) C dX9_grow_65 rfl 0 rfl ?_
    refine g_bipush (pc := 66) C dX9_grow_66 ic_bipush_40 ?_
    refine g_callR (pc := 68) C (g_runV (stk := []) C (c_X9_widthsIn F (40 : Int32) M4) rfl rfl rfl kd_95 rfl wC_X9_widthsIn wI_X9_widthsIn wV_X9_widthsIn wi_X9 wm_X9_177 hy_X9_widthsIn (by decide) (Nat.le_of_ble_eq_true rfl) dX9_grow_68) (fun r5 => ?_)
    refine g_callR (pc := 71) C (g_runS (stk := []) C (c_X9_ones F r5 M4) rfl rfl rfl wC_X9_ones wS_X9_ones wi_X9 wm_X9_181 hy_X9_ones (by decide) (Nat.le_of_ble_eq_true rfl) dX9_grow_71) (fun r6 => ?_)
    refine g_istore (pc := 74) (lv' := [(7, .int r6), (0, .ref (xad X 95)), (1, .int a0), (2, .int x2), (3, .int x3), (4, .int x4), (5, .int x5), (6, .int x6)]) C dX9_grow_74 (by decide) rfl ?_
    refine g_iload (pc := 76) C dX9_grow_76 0 rfl ?_
    refine g_iload (pc := 78) C dX9_grow_78 5 rfl ?_
    refine g_icmp_le (pc := 80) (tgt := 93) C dX9_grow_80 (by decide) ?_ ?_
    · refine g_iinc (pc := 93) (j := 7) (lv' := [(6, .int (x6 + (1 : Int32))), (7, .int r6), (0, .ref (xad X 95)), (1, .int a0), (2, .int x2), (3, .int x3), (4, .int x4), (5, .int x5)]) C dX9_grow_93 rfl (ii_1 _) (by decide) rfl ?_
      refine g_goto (pc := 96) (tgt := 46) C dX9_grow_96 (by decide) ?_
      refine g_sub (lv' := [(0, .ref (xad X 95)), (1, .int a0), (2, .int x2), (3, .int x3), (4, .int x4), (5, .int x5), (6, .int (x6 + (1 : Int32)))]) [2, 3, 4, 5, 6, 7, 0] rfl ?_
      exact hk46 x2 x3 x4 x5 (x6 + (1 : Int32)) M4
    · refine g_iload (pc := 83) C dX9_grow_83 6 rfl ?_
      refine g_istore_n (pc := 85) (lv' := [(2, .int x5), (7, .int r6), (0, .ref (xad X 95)), (1, .int a0), (3, .int x3), (4, .int x4), (5, .int x5), (6, .int x6)]) C dX9_grow_85 rfl (by decide) rfl ?_
      refine g_iload (pc := 86) C dX9_grow_86 7 rfl ?_
      refine g_istore_n (pc := 88) (lv' := [(3, .int x6), (2, .int x5), (7, .int r6), (0, .ref (xad X 95)), (1, .int a0), (4, .int x4), (5, .int x5), (6, .int x6)]) C dX9_grow_88 rfl (by decide) rfl ?_
      refine g_iload (pc := 89) C dX9_grow_89 2 rfl ?_
      refine g_istore (pc := 91) (lv' := [(4, .int r6), (3, .int x6), (2, .int x5), (7, .int r6), (0, .ref (xad X 95)), (1, .int a0), (5, .int x5), (6, .int x6)]) C dX9_grow_91 (by decide) rfl ?_
      refine g_iinc (pc := 93) (j := 7) (lv' := [(6, .int (x6 + (1 : Int32))), (4, .int r6), (3, .int x6), (2, .int x5), (7, .int r6), (0, .ref (xad X 95)), (1, .int a0), (5, .int x5)]) C dX9_grow_93 rfl (ii_1 _) (by decide) rfl ?_
      refine g_goto (pc := 96) (tgt := 46) C dX9_grow_96 (by decide) ?_
      refine g_sub (lv' := [(0, .ref (xad X 95)), (1, .int a0), (2, .int x5), (3, .int x6), (4, .int r6), (5, .int x5), (6, .int (x6 + (1 : Int32)))]) [5, 6, 3, 2, 1, 7, 0] rfl ?_
      exact hk46 x5 x6 r6 x5 (x6 + (1 : Int32)) M4

theorem g_X9_grow_h46 {X : gX} (C : gC X cX9_grow RX9 8 (some .int) 3 68) (F : Nat) (a0 : Int32) (k32 : Int32 → Int32 → Int32 → Int32 → gM → Option (Int32 × gM)) (hk32 : ∀ (x2 : Int32) (x3 : Int32) (x4 : Int32) (x5 : Int32) (M : gM), G X (gQm X rvW rMW) 8 M [(0, .ref (xad X 95)), (1, .int a0), (2, .int x2), (3, .int x3), (4, .int x4), (5, .int x5)] [] 32 (k32 x2 x3 x4 x5 M)) : ∀ (n : Nat) (x2 : Int32) (x3 : Int32) (x4 : Int32) (x5 : Int32) (x6 : Int32) (M : gM), G X (gQm X rvW rMW) 8 M [(0, .ref (xad X 95)), (1, .int a0), (2, .int x2), (3, .int x3), (4, .int x4), (5, .int x5), (6, .int x6)] [] 46 (f_X9_grow_h46 F a0 k32 n x2 x3 x4 x5 x6 M) := by
  intro n
  induction n with
  | zero =>
    intro x2 x3 x4 x5 x6 M r hr
    have hr2 : (none : Option (Int32 × gM)) = some r := hr
    cases hr2
  | succ n ih =>
    intro x2 x3 x4 x5 x6 M
    exact g_X9_grow_h46_b C F a0 k32 hk32 _ ih x2 x3 x4 x5 x6 M
set_option maxRecDepth 100000 in
set_option maxHeartbeats 4000000 in
theorem g_X9_grow_h32_b {X : gX} (C : gC X cX9_grow RX9 8 (some .int) 3 68) (F : Nat) (a0 : Int32) (k32 : Int32 → Int32 → Int32 → Int32 → gM → Option (Int32 × gM)) (hk32 : ∀ (x2 : Int32) (x3 : Int32) (x4 : Int32) (x5 : Int32) (M : gM), G X (gQm X rvW rMW) 8 M [(0, .ref (xad X 95)), (1, .int a0), (2, .int x2), (3, .int x3), (4, .int x4), (5, .int x5)] [] 32 (k32 x2 x3 x4 x5 M)) (x2 : Int32) (x3 : Int32) (x4 : Int32) (x5 : Int32) (M : gM) : G X (gQm X rvW rMW) 8 M [(0, .ref (xad X 95)), (1, .int a0), (2, .int x2), (3, .int x3), (4, .int x4), (5, .int x5)] [] 32 (f_X9_grow_h32_b F a0 k32 x2 x3 x4 x5 M) := by
  unfold f_X9_grow_h32_b
  refine g_iload (pc := 32) C dX9_grow_32 5 rfl ?_
  refine g_aload_n (pc := 34) C dX9_grow_34 rfl 0 rfl ?_
  refine gf_X9_47 (pc := 35) (u := 108) C kd_95 rfl dX9_grow_35 ?_
  refine g_iconst (pc := 38) C dX9_grow_38 ic_iconst_0 ?_
  refine g_iald (pc := 39) C kd_108 dX9_grow_39 ?_
  refine g_icmp_ge (pc := 40) (tgt := 122) C dX9_grow_40 (by decide) ?_ ?_
  · refine g_iload_n (pc := 122) C dX9_grow_122 rfl 2 rfl ?_
    refine g_if_ge (pc := 123) (tgt := 130) C dX9_grow_123 (by decide) ?_ ?_
    · refine g_iload_n (pc := 130) C dX9_grow_130 rfl 1 rfl ?_
      refine g_if_ne (pc := 131) (tgt := 138) C dX9_grow_131 (by decide) ?_ ?_
      · refine g_iload_n (pc := 138) C dX9_grow_138 rfl 1 rfl ?_
        refine g_iconst (pc := 139) C dX9_grow_139 ic_iconst_1 ?_
        refine g_icmp_ne (pc := 140) (tgt := 147) C dX9_grow_140 (by decide) ?_ ?_
        · refine g_iload (pc := 147) C dX9_grow_147 4 rfl ?_
          exact g_iret (pc := 149) C dX9_grow_149 rfl rfl
        · refine g_iload_n (pc := 143) C dX9_grow_143 rfl 3 rfl ?_
          refine g_goto (pc := 144) (tgt := 149) C dX9_grow_144 (by decide) ?_
          exact g_iret (pc := 149) C dX9_grow_149 rfl rfl
      · refine g_iload_n (pc := 134) C dX9_grow_134 rfl 2 rfl ?_
        refine g_goto (pc := 135) (tgt := 149) C dX9_grow_135 (by decide) ?_
        exact g_iret (pc := 149) C dX9_grow_149 rfl rfl
    · refine g_iconst (pc := 126) C dX9_grow_126 ic_iconst_m1 ?_
      refine g_goto (pc := 127) (tgt := 149) C dX9_grow_127 (by decide) ?_
      exact g_iret (pc := 149) C dX9_grow_149 rfl rfl
  · refine g_iconst (pc := 43) C dX9_grow_43 ic_iconst_0 ?_
    refine g_istore (pc := 44) (lv' := [(6, .int (0 : Int32)), (0, .ref (xad X 95)), (1, .int a0), (2, .int x2), (3, .int x3), (4, .int x4), (5, .int x5)]) C dX9_grow_44 (by decide) rfl ?_
    refine g_sub (lv' := [(0, .ref (xad X 95)), (1, .int a0), (2, .int x2), (3, .int x3), (4, .int x4), (5, .int x5), (6, .int (0 : Int32))]) [1, 2, 3, 4, 5, 6, 0] rfl ?_
    exact g_X9_grow_h46 C F a0 k32 hk32 F x2 x3 x4 x5 (0 : Int32) M

theorem g_X9_grow_h32 {X : gX} (C : gC X cX9_grow RX9 8 (some .int) 3 68) (F : Nat) (a0 : Int32) : ∀ (n : Nat) (x2 : Int32) (x3 : Int32) (x4 : Int32) (x5 : Int32) (M : gM), G X (gQm X rvW rMW) 8 M [(0, .ref (xad X 95)), (1, .int a0), (2, .int x2), (3, .int x3), (4, .int x4), (5, .int x5)] [] 32 (f_X9_grow_h32 F a0 n x2 x3 x4 x5 M) := by
  intro n
  induction n with
  | zero =>
    intro x2 x3 x4 x5 M r hr
    have hr2 : (none : Option (Int32 × gM)) = some r := hr
    cases hr2
  | succ n ih =>
    intro x2 x3 x4 x5 M
    exact g_X9_grow_h32_b C F a0 _ ih x2 x3 x4 x5 M
set_option maxRecDepth 100000 in
set_option maxHeartbeats 4000000 in
theorem c_X9_grow (F : Nat) (a0 : Int32)  (M : gM) : gCt yX9_grow cX9_grow 8 (some .int) 3 68 (fun ad K V => [.ref (ad 95), .int a0]) rvW rMW M (f_X9_grow F a0 M) := by
  refine g_met (y := yX9_grow) (by decide +kernel) (fun _ _ _ => Nat.le_of_ble_eq_true rfl) (fun X C => ?_)
  show G X (gQm X rvW rMW) 8 M [(0, .ref (xad X 95)), (1, .int a0)] [] 0 (f_X9_grow F a0 M)
  unfold f_X9_grow
  refine g_iload_n (pc := 0) C dX9_grow_0 rfl 1 rfl ?_
  refine g_i2l (pc := 1) C dX9_grow_1 ?_
  refine g_lconst (pc := 2) (v := 0) C dX9_grow_2 rfl ?_
  refine g_ldc2 (pc := 3) C wl_X9_192 dX9_grow_3 ?_
  refine g_callR (pc := 6) C (g_runS (stk := []) C (c_X9_in a0.toInt64 (0 : Int64) (2 : Int64) M) rfl rfl rfl wC_X9_in wS_X9_in wi_X9 wm_X9_89 hy_X9_in (by decide) (Nat.le_of_ble_eq_true rfl) dX9_grow_6) (fun r1 => ?_)
  refine g_if_ne (pc := 9) (tgt := 15) C dX9_grow_9 (by decide) ?_ ?_
  · refine g_aload_n (pc := 15) C dX9_grow_15 rfl 0 rfl ?_
    refine g_iconst (pc := 16) C dX9_grow_16 ic_iconst_0 ?_
    refine g_bipush (pc := 17) C dX9_grow_17 ic_bipush_40 ?_
    refine g_callV (pc := 19) C (g_runV (stk := []) C (c_X9_copy F (0 : Int32) (40 : Int32) M) rfl rfl rfl kd_95 rfl wC_X9_copy wI_X9_copy wV_X9_copy wi_X9 wm_X9_248 hy_X9_copy (by decide) (Nat.le_of_ble_eq_true rfl) dX9_grow_19) (fun r2 => ?_)
    refine g_iconst (pc := 22) C dX9_grow_22 ic_iconst_m1 ?_
    refine g_istore_n (pc := 23) (lv' := [(2, .int (-1 : Int32)), (0, .ref (xad X 95)), (1, .int a0)]) C dX9_grow_23 rfl (by decide) rfl ?_
    refine g_iconst (pc := 24) C dX9_grow_24 ic_iconst_0 ?_
    refine g_istore_n (pc := 25) (lv' := [(3, .int (0 : Int32)), (2, .int (-1 : Int32)), (0, .ref (xad X 95)), (1, .int a0)]) C dX9_grow_25 rfl (by decide) rfl ?_
    refine g_iconst (pc := 26) C dX9_grow_26 ic_iconst_m1 ?_
    refine g_istore (pc := 27) (lv' := [(4, .int (-1 : Int32)), (3, .int (0 : Int32)), (2, .int (-1 : Int32)), (0, .ref (xad X 95)), (1, .int a0)]) C dX9_grow_27 (by decide) rfl ?_
    refine g_iconst (pc := 29) C dX9_grow_29 ic_iconst_0 ?_
    refine g_istore (pc := 30) (lv' := [(5, .int (0 : Int32)), (4, .int (-1 : Int32)), (3, .int (0 : Int32)), (2, .int (-1 : Int32)), (0, .ref (xad X 95)), (1, .int a0)]) C dX9_grow_30 (by decide) rfl ?_
    refine g_sub (lv' := [(0, .ref (xad X 95)), (1, .int a0), (2, .int (-1 : Int32)), (3, .int (0 : Int32)), (4, .int (-1 : Int32)), (5, .int (0 : Int32))]) [4, 5, 3, 2, 1, 0] rfl ?_
    exact g_X9_grow_h32 C F a0 F (-1 : Int32) (0 : Int32) (-1 : Int32) (0 : Int32) r2
  · refine g_ldc (pc := 12) C wk_X9_93 dX9_grow_12 ?_
    exact g_iret (pc := 14) C dX9_grow_14 rfl rfl

/-! X9_here -/
set_option maxRecDepth 100000 in
set_option maxHeartbeats 4000000 in
theorem g_X9_here_b38 {X : gX} (C : gC X cX9_here RX9 1 (some .int) 0 0) (F : Nat) (M : gM) : G X (gQm X rvW rMW) 1 M [(0, .ref (xad X 95))] [] 38 (f_X9_here_b38 F M) := by
  unfold f_X9_here_b38
  refine g_aload_n (pc := 38) C dX9_here_38 rfl 0 rfl ?_
  refine gf_X9_100 (pc := 39) C kd_95 dX9_here_39 ?_
  refine g_aload_n (pc := 42) C dX9_here_42 rfl 0 rfl ?_
  refine gf_X9_94 (pc := 43) C kd_95 dX9_here_43 ?_
  refine g_icmp_ge (pc := 46) (tgt := 61) C dX9_here_46 (by decide) ?_ ?_
  · refine g_iconst (pc := 61) C dX9_here_61 ic_iconst_m1 ?_
    exact g_iret (pc := 62) C dX9_here_62 rfl rfl
  · refine g_aload_n (pc := 49) C dX9_here_49 rfl 0 rfl ?_
    refine gf_X9_50 (pc := 50) (u := 109) C kd_95 rfl dX9_here_50 ?_
    refine g_aload_n (pc := 53) C dX9_here_53 rfl 0 rfl ?_
    refine gf_X9_100 (pc := 54) C kd_95 dX9_here_54 ?_
    refine g_iald (pc := 57) C kd_109 dX9_here_57 ?_
    refine g_goto (pc := 58) (tgt := 62) C dX9_here_58 (by decide) ?_
    exact g_iret (pc := 62) C dX9_here_62 rfl rfl

set_option maxRecDepth 100000 in
set_option maxHeartbeats 4000000 in
theorem g_X9_here_h0_b {X : gX} (C : gC X cX9_here RX9 1 (some .int) 0 0) (F : Nat) (k0 : gM → Option (Int32 × gM)) (hk0 : ∀ (M : gM), G X (gQm X rvW rMW) 1 M [(0, .ref (xad X 95))] [] 0 (k0 M)) (M : gM) : G X (gQm X rvW rMW) 1 M [(0, .ref (xad X 95))] [] 0 (f_X9_here_h0_b F k0 M) := by
  unfold f_X9_here_h0_b
  refine g_aload_n (pc := 0) C dX9_here_0 rfl 0 rfl ?_
  refine gf_X9_100 (pc := 1) C kd_95 dX9_here_1 ?_
  refine g_aload_n (pc := 4) C dX9_here_4 rfl 0 rfl ?_
  refine gf_X9_94 (pc := 5) C kd_95 dX9_here_5 ?_
  refine g_icmp_ge (pc := 8) (tgt := 38) C dX9_here_8 (by decide) ?_ ?_
  · exact g_X9_here_b38 C F M
  · refine g_aload_n (pc := 11) C dX9_here_11 rfl 0 rfl ?_
    refine gf_X9_50 (pc := 12) (u := 109) C kd_95 rfl dX9_here_12 ?_
    refine g_aload_n (pc := 15) C dX9_here_15 rfl 0 rfl ?_
    refine gf_X9_100 (pc := 16) C kd_95 dX9_here_16 ?_
    refine g_iald (pc := 19) C kd_109 dX9_here_19 ?_
    refine g_bipush (pc := 20) C dX9_here_20 ic_bipush_32 ?_
    refine g_icmp_ne (pc := 22) (tgt := 38) C dX9_here_22 (by decide) ?_ ?_
    · exact g_X9_here_b38 C F M
    · refine g_aload_n (pc := 25) C dX9_here_25 rfl 0 rfl ?_
      refine g_dup (pc := 26) C dX9_here_26 rfl ?_
      refine gf_X9_100 (pc := 27) C kd_95 dX9_here_27 ?_
      refine g_iconst (pc := 30) C dX9_here_30 ic_iconst_1 ?_
      refine g_iadd (pc := 31) C dX9_here_31 ?_
      refine gp_X9_100 (pc := 32) C kd_95 dX9_here_32 ?_
      refine g_ltM (fun M1 => ?_)
      refine g_goto (pc := 35) (tgt := 0) C dX9_here_35 (by decide) ?_
      exact hk0 M1

theorem g_X9_here_h0 {X : gX} (C : gC X cX9_here RX9 1 (some .int) 0 0) (F : Nat) : ∀ (n : Nat) (M : gM), G X (gQm X rvW rMW) 1 M [(0, .ref (xad X 95))] [] 0 (f_X9_here_h0 F n M) := by
  intro n
  induction n with
  | zero =>
    intro M r hr
    have hr2 : (none : Option (Int32 × gM)) = some r := hr
    cases hr2
  | succ n ih =>
    intro M
    exact g_X9_here_h0_b C F _ ih M
set_option maxRecDepth 100000 in
set_option maxHeartbeats 4000000 in
theorem c_X9_here (F : Nat)  (M : gM) : gCt yX9_here cX9_here 1 (some .int) 0 0 (fun ad K V => [.ref (ad 95)]) rvW rMW M (f_X9_here F M) := by
  refine g_met (y := yX9_here) (by decide +kernel) (fun _ _ _ => Nat.le_of_ble_eq_true rfl) (fun X C => ?_)
  show G X (gQm X rvW rMW) 1 M [(0, .ref (xad X 95))] [] 0 (f_X9_here F M)
  unfold f_X9_here
  exact g_X9_here_h0 C F F M

/-! X9_isPart -/
set_option maxRecDepth 100000 in
set_option maxHeartbeats 4000000 in
theorem c_X9_isPart (a0 : Int32)  (M : gM) : gCt yX9_isPart cX9_isPart 2 (some .boolean) 1 25 (fun ad K V => [.ref (ad 95), .int a0]) rvR (rMR M) M (f_X9_isPart a0 M) := by
  refine g_met (y := yX9_isPart) (by decide +kernel) (fun _ _ _ => Nat.le_of_ble_eq_true rfl) (fun X C => ?_)
  show G X (gQm X rvR (rMR M)) 2 M [(0, .ref (xad X 95)), (1, .int a0)] [] 0 (f_X9_isPart a0 M)
  unfold f_X9_isPart
  refine g_iload_n (pc := 0) C dX9_isPart_0 rfl 1 rfl ?_
  refine g_i2l (pc := 1) C dX9_isPart_1 ?_
  refine g_lconst (pc := 2) (v := 0) C dX9_isPart_2 rfl ?_
  refine g_aload_n (pc := 3) C dX9_isPart_3 rfl 0 rfl ?_
  refine gf_X9_47 (pc := 4) (u := 108) C kd_95 rfl dX9_isPart_4 ?_
  refine g_iconst (pc := 7) C dX9_isPart_7 ic_iconst_0 ?_
  refine g_iald (pc := 8) C kd_108 dX9_isPart_8 ?_
  refine g_iconst (pc := 9) C dX9_isPart_9 ic_iconst_1 ?_
  refine g_isub (pc := 10) C dX9_isPart_10 ?_
  refine g_i2l (pc := 11) C dX9_isPart_11 ?_
  refine g_callR (pc := 12) C (g_runS (stk := []) C (c_X9_in a0.toInt64 (0 : Int64) (((M 108 (0 : Int32).toNatClampNeg) - (1 : Int32)).toInt64) M) rfl rfl rfl wC_X9_in wS_X9_in wi_X9 wm_X9_89 hy_X9_in (by decide) (Nat.le_of_ble_eq_true rfl) dX9_isPart_12) (fun r1 => ?_)
  exact g_zret (pc := 15) C dX9_isPart_15 rfl rfl

/-! X9_isWord -/
set_option maxRecDepth 100000 in
set_option maxHeartbeats 4000000 in
theorem g_X9_isWord_b84 {X : gX} (C : gC X cX9_isWord RX9 9 (some .boolean) 0 0) (F : Nat) (a0 : Int32) (a1 : Int32) (a2 : Int32) (a3 : Int32) (a4 : Int32) (a5 : Int32) (M : gM) (k18 : Int32 → Int32 → Option Int32) (hk18 : ∀ (x7 : Int32) (x8 : Int32), G X (gQm X rvR (rMR M)) 9 M [(0, .ref (xad X 95)), (1, .int a0), (2, .int a1), (3, .int a2), (4, .int a3), (5, .int a4), (6, .int a5), (7, .int x7), (8, .int x8)] [] 18 (k18 x7 x8)) (x8 : Int32) (s0 : Int32) (s1 : Int32) : G X (gQm X rvR (rMR M)) 9 M [(0, .ref (xad X 95)), (1, .int a0), (2, .int a1), (3, .int a2), (4, .int a3), (5, .int a4), (6, .int a5), (8, .int x8)] [.int s0, .int s1] 84 (f_X9_isWord_b84 F a0 a1 a2 a3 a4 a5 M k18 x8 s0 s1) := by
  unfold f_X9_isWord_b84
  refine g_icmp_ne (pc := 84) (tgt := 91) C dX9_isWord_84 (by decide) ?_ ?_
  · refine g_iconst (pc := 91) C dX9_isWord_91 ic_iconst_0 ?_
    refine g_istore (pc := 92) (lv' := [(7, .int (0 : Int32)), (0, .ref (xad X 95)), (1, .int a0), (2, .int a1), (3, .int a2), (4, .int a3), (5, .int a4), (6, .int a5), (8, .int x8)]) C dX9_isWord_92 (by decide) rfl ?_
    refine g_iinc (pc := 94) (j := 8) (lv' := [(8, .int (x8 + (1 : Int32))), (7, .int (0 : Int32)), (0, .ref (xad X 95)), (1, .int a0), (2, .int a1), (3, .int a2), (4, .int a3), (5, .int a4), (6, .int a5)]) C dX9_isWord_94 rfl (ii_1 _) (by decide) rfl ?_
    refine g_goto (pc := 97) (tgt := 18) C dX9_isWord_97 (by decide) ?_
    refine g_sub (lv' := [(0, .ref (xad X 95)), (1, .int a0), (2, .int a1), (3, .int a2), (4, .int a3), (5, .int a4), (6, .int a5), (7, .int (0 : Int32)), (8, .int (x8 + (1 : Int32)))]) [2, 3, 4, 5, 6, 7, 8, 1, 0] rfl ?_
    exact hk18 (0 : Int32) (x8 + (1 : Int32))
  · refine g_iconst (pc := 87) C dX9_isWord_87 ic_iconst_1 ?_
    refine g_goto (pc := 88) (tgt := 92) C dX9_isWord_88 (by decide) ?_
    refine g_istore (pc := 92) (lv' := [(7, .int (1 : Int32)), (0, .ref (xad X 95)), (1, .int a0), (2, .int a1), (3, .int a2), (4, .int a3), (5, .int a4), (6, .int a5), (8, .int x8)]) C dX9_isWord_92 (by decide) rfl ?_
    refine g_iinc (pc := 94) (j := 8) (lv' := [(8, .int (x8 + (1 : Int32))), (7, .int (1 : Int32)), (0, .ref (xad X 95)), (1, .int a0), (2, .int a1), (3, .int a2), (4, .int a3), (5, .int a4), (6, .int a5)]) C dX9_isWord_94 rfl (ii_1 _) (by decide) rfl ?_
    refine g_goto (pc := 97) (tgt := 18) C dX9_isWord_97 (by decide) ?_
    refine g_sub (lv' := [(0, .ref (xad X 95)), (1, .int a0), (2, .int a1), (3, .int a2), (4, .int a3), (5, .int a4), (6, .int a5), (7, .int (1 : Int32)), (8, .int (x8 + (1 : Int32)))]) [2, 3, 4, 5, 6, 7, 8, 1, 0] rfl ?_
    exact hk18 (1 : Int32) (x8 + (1 : Int32))

set_option maxRecDepth 100000 in
set_option maxHeartbeats 4000000 in
theorem g_X9_isWord_h18_b {X : gX} (C : gC X cX9_isWord RX9 9 (some .boolean) 0 0) (F : Nat) (a0 : Int32) (a1 : Int32) (a2 : Int32) (a3 : Int32) (a4 : Int32) (a5 : Int32) (M : gM) (k18 : Int32 → Int32 → Option Int32) (hk18 : ∀ (x7 : Int32) (x8 : Int32), G X (gQm X rvR (rMR M)) 9 M [(0, .ref (xad X 95)), (1, .int a0), (2, .int a1), (3, .int a2), (4, .int a3), (5, .int a4), (6, .int a5), (7, .int x7), (8, .int x8)] [] 18 (k18 x7 x8)) (x7 : Int32) (x8 : Int32) : G X (gQm X rvR (rMR M)) 9 M [(0, .ref (xad X 95)), (1, .int a0), (2, .int a1), (3, .int a2), (4, .int a3), (5, .int a4), (6, .int a5), (7, .int x7), (8, .int x8)] [] 18 (f_X9_isWord_h18_b F a0 a1 a2 a3 a4 a5 M k18 x7 x8) := by
  unfold f_X9_isWord_h18_b
  refine g_iload (pc := 18) C dX9_isWord_18 8 rfl ?_
  refine g_iload_n (pc := 20) C dX9_isWord_20 rfl 1 rfl ?_
  refine g_icmp_ge (pc := 21) (tgt := 100) C dX9_isWord_21 (by decide) ?_ ?_
  · refine g_iload (pc := 100) C dX9_isWord_100 7 rfl ?_
    exact g_zret (pc := 102) C dX9_isWord_102 rfl rfl
  · refine g_iload (pc := 24) C dX9_isWord_24 7 rfl ?_
    refine g_if_eq (pc := 26) (tgt := 100) C dX9_isWord_26 (by decide) ?_ ?_
    · refine g_iload (pc := 100) C dX9_isWord_100 7 rfl ?_
      exact g_zret (pc := 102) C dX9_isWord_102 rfl rfl
    · refine g_aload_n (pc := 29) C dX9_isWord_29 rfl 0 rfl ?_
      refine gf_X9_50 (pc := 30) (u := 109) C kd_95 rfl dX9_isWord_30 ?_
      refine g_aload_n (pc := 33) C dX9_isWord_33 rfl 0 rfl ?_
      refine gf_X9_110 (pc := 34) C kd_95 dX9_isWord_34 ?_
      refine g_iload (pc := 37) C dX9_isWord_37 8 rfl ?_
      refine g_iadd (pc := 39) C dX9_isWord_39 ?_
      refine g_iald (pc := 40) C kd_109 dX9_isWord_40 ?_
      refine g_iload (pc := 41) C dX9_isWord_41 8 rfl ?_
      refine g_if_ne (pc := 43) (tgt := 50) C dX9_isWord_43 (by decide) ?_ ?_
      · refine g_iload (pc := 50) C dX9_isWord_50 8 rfl ?_
        refine g_iconst (pc := 52) C dX9_isWord_52 ic_iconst_1 ?_
        refine g_icmp_ne (pc := 53) (tgt := 60) C dX9_isWord_53 (by decide) ?_ ?_
        · refine g_iload (pc := 60) C dX9_isWord_60 8 rfl ?_
          refine g_iconst (pc := 62) C dX9_isWord_62 ic_iconst_2 ?_
          refine g_icmp_ne (pc := 63) (tgt := 71) C dX9_isWord_63 (by decide) ?_ ?_
          · refine g_iload (pc := 71) C dX9_isWord_71 8 rfl ?_
            refine g_iconst (pc := 73) C dX9_isWord_73 ic_iconst_3 ?_
            refine g_icmp_ne (pc := 74) (tgt := 82) C dX9_isWord_74 (by decide) ?_ ?_
            · refine g_iload (pc := 82) C dX9_isWord_82 6 rfl ?_
              refine g_sub (lv' := [(0, .ref (xad X 95)), (1, .int a0), (2, .int a1), (3, .int a2), (4, .int a3), (5, .int a4), (6, .int a5), (8, .int x8)]) [0, 1, 2, 3, 4, 5, 6, 8] rfl ?_
              exact g_X9_isWord_b84 C F a0 a1 a2 a3 a4 a5 M k18 hk18 x8 a5 (M 109 ((M 95 16) + x8).toNatClampNeg)
            · refine g_iload (pc := 77) C dX9_isWord_77 5 rfl ?_
              refine g_goto (pc := 79) (tgt := 84) C dX9_isWord_79 (by decide) ?_
              refine g_sub (lv' := [(0, .ref (xad X 95)), (1, .int a0), (2, .int a1), (3, .int a2), (4, .int a3), (5, .int a4), (6, .int a5), (8, .int x8)]) [0, 1, 2, 3, 4, 5, 6, 8] rfl ?_
              exact g_X9_isWord_b84 C F a0 a1 a2 a3 a4 a5 M k18 hk18 x8 a4 (M 109 ((M 95 16) + x8).toNatClampNeg)
          · refine g_iload (pc := 66) C dX9_isWord_66 4 rfl ?_
            refine g_goto (pc := 68) (tgt := 84) C dX9_isWord_68 (by decide) ?_
            refine g_sub (lv' := [(0, .ref (xad X 95)), (1, .int a0), (2, .int a1), (3, .int a2), (4, .int a3), (5, .int a4), (6, .int a5), (8, .int x8)]) [0, 1, 2, 3, 4, 5, 6, 8] rfl ?_
            exact g_X9_isWord_b84 C F a0 a1 a2 a3 a4 a5 M k18 hk18 x8 a3 (M 109 ((M 95 16) + x8).toNatClampNeg)
        · refine g_iload_n (pc := 56) C dX9_isWord_56 rfl 3 rfl ?_
          refine g_goto (pc := 57) (tgt := 84) C dX9_isWord_57 (by decide) ?_
          refine g_sub (lv' := [(0, .ref (xad X 95)), (1, .int a0), (2, .int a1), (3, .int a2), (4, .int a3), (5, .int a4), (6, .int a5), (8, .int x8)]) [0, 1, 2, 3, 4, 5, 6, 8] rfl ?_
          exact g_X9_isWord_b84 C F a0 a1 a2 a3 a4 a5 M k18 hk18 x8 a2 (M 109 ((M 95 16) + x8).toNatClampNeg)
      · refine g_iload_n (pc := 46) C dX9_isWord_46 rfl 2 rfl ?_
        refine g_goto (pc := 47) (tgt := 84) C dX9_isWord_47 (by decide) ?_
        refine g_sub (lv' := [(0, .ref (xad X 95)), (1, .int a0), (2, .int a1), (3, .int a2), (4, .int a3), (5, .int a4), (6, .int a5), (8, .int x8)]) [0, 1, 2, 3, 4, 5, 6, 8] rfl ?_
        exact g_X9_isWord_b84 C F a0 a1 a2 a3 a4 a5 M k18 hk18 x8 a1 (M 109 ((M 95 16) + x8).toNatClampNeg)

theorem g_X9_isWord_h18 {X : gX} (C : gC X cX9_isWord RX9 9 (some .boolean) 0 0) (F : Nat) (a0 : Int32) (a1 : Int32) (a2 : Int32) (a3 : Int32) (a4 : Int32) (a5 : Int32) (M : gM) : ∀ (n : Nat) (x7 : Int32) (x8 : Int32), G X (gQm X rvR (rMR M)) 9 M [(0, .ref (xad X 95)), (1, .int a0), (2, .int a1), (3, .int a2), (4, .int a3), (5, .int a4), (6, .int a5), (7, .int x7), (8, .int x8)] [] 18 (f_X9_isWord_h18 F a0 a1 a2 a3 a4 a5 M n x7 x8) := by
  intro n
  induction n with
  | zero =>
    intro x7 x8 r hr
    have hr2 : (none : Option Int32) = some r := hr
    cases hr2
  | succ n ih =>
    intro x7 x8
    exact g_X9_isWord_h18_b C F a0 a1 a2 a3 a4 a5 M _ ih x7 x8
set_option maxRecDepth 100000 in
set_option maxHeartbeats 4000000 in
theorem c_X9_isWord (F : Nat) (a0 : Int32) (a1 : Int32) (a2 : Int32) (a3 : Int32) (a4 : Int32) (a5 : Int32)  (M : gM) : gCt yX9_isWord cX9_isWord 9 (some .boolean) 0 0 (fun ad K V => [.ref (ad 95), .int a0, .int a1, .int a2, .int a3, .int a4, .int a5]) rvR (rMR M) M (f_X9_isWord F a0 a1 a2 a3 a4 a5 M) := by
  refine g_met (y := yX9_isWord) (by decide +kernel) (fun _ _ _ => Nat.le_of_ble_eq_true rfl) (fun X C => ?_)
  show G X (gQm X rvR (rMR M)) 9 M [(0, .ref (xad X 95)), (1, .int a0), (2, .int a1), (3, .int a2), (4, .int a3), (5, .int a4), (6, .int a5)] [] 0 (f_X9_isWord F a0 a1 a2 a3 a4 a5 M)
  unfold f_X9_isWord
  refine g_aload_n (pc := 0) C dX9_isWord_0 rfl 0 rfl ?_
  refine gf_X9_117 (pc := 1) C kd_95 dX9_isWord_1 ?_
  refine g_iload_n (pc := 4) C dX9_isWord_4 rfl 1 rfl ?_
  refine g_icmp_ne (pc := 5) (tgt := 12) C dX9_isWord_5 (by decide) ?_ ?_
  · refine g_iconst (pc := 12) C dX9_isWord_12 ic_iconst_0 ?_
    refine g_istore (pc := 13) (lv' := [(7, .int (0 : Int32)), (0, .ref (xad X 95)), (1, .int a0), (2, .int a1), (3, .int a2), (4, .int a3), (5, .int a4), (6, .int a5)]) C dX9_isWord_13 (by decide) rfl ?_
    refine g_iconst (pc := 15) C dX9_isWord_15 ic_iconst_0 ?_
    refine g_istore (pc := 16) (lv' := [(8, .int (0 : Int32)), (7, .int (0 : Int32)), (0, .ref (xad X 95)), (1, .int a0), (2, .int a1), (3, .int a2), (4, .int a3), (5, .int a4), (6, .int a5)]) C dX9_isWord_16 (by decide) rfl ?_
    refine g_sub (lv' := [(0, .ref (xad X 95)), (1, .int a0), (2, .int a1), (3, .int a2), (4, .int a3), (5, .int a4), (6, .int a5), (7, .int (0 : Int32)), (8, .int (0 : Int32))]) [2, 3, 4, 5, 6, 7, 8, 1, 0] rfl ?_
    exact g_X9_isWord_h18 C F a0 a1 a2 a3 a4 a5 M F (0 : Int32) (0 : Int32)
  · refine g_iconst (pc := 8) C dX9_isWord_8 ic_iconst_1 ?_
    refine g_goto (pc := 9) (tgt := 13) C dX9_isWord_9 (by decide) ?_
    refine g_istore (pc := 13) (lv' := [(7, .int (1 : Int32)), (0, .ref (xad X 95)), (1, .int a0), (2, .int a1), (3, .int a2), (4, .int a3), (5, .int a4), (6, .int a5)]) C dX9_isWord_13 (by decide) rfl ?_
    refine g_iconst (pc := 15) C dX9_isWord_15 ic_iconst_0 ?_
    refine g_istore (pc := 16) (lv' := [(8, .int (0 : Int32)), (7, .int (1 : Int32)), (0, .ref (xad X 95)), (1, .int a0), (2, .int a1), (3, .int a2), (4, .int a3), (5, .int a4), (6, .int a5)]) C dX9_isWord_16 (by decide) rfl ?_
    refine g_sub (lv' := [(0, .ref (xad X 95)), (1, .int a0), (2, .int a1), (3, .int a2), (4, .int a3), (5, .int a4), (6, .int a5), (7, .int (1 : Int32)), (8, .int (0 : Int32))]) [2, 3, 4, 5, 6, 7, 8, 1, 0] rfl ?_
    exact g_X9_isWord_h18 C F a0 a1 a2 a3 a4 a5 M F (1 : Int32) (0 : Int32)

