/-! X9_takeClause -/
set_option maxRecDepth 100000 in
set_option maxHeartbeats 4000000 in
theorem g_X9_takeClause_b150 {X : gX} (C : gC X cX9_takeClause RX9 2 none 3 72) (F : Nat) (x1 : Int32) (s0 : Int32) (M : gM) : G X (gQm X rvV rMV) 2 M [(0, .ref (xad X 95)), (1, .int x1)] [.int s0, .ref (xad X 95)] 150 (f_X9_takeClause_b150 F x1 s0 M) := by
  unfold f_X9_takeClause_b150
  refine g_iconst (pc := 150) C dX9_takeClause_150 ic_iconst_3 ?_
  refine g_iload_n (pc := 151) C dX9_takeClause_151 rfl 1 rfl ?_
  refine g_callW (pc := 152) C (g_runV (stk := []) C (c_X9_want s0 (3 : Int32) x1 M) rfl rfl rfl kd_95 rfl wC_X9_want wI_X9_want wV_X9_want wi_X9 wm_X9_124 hy_X9_want (by decide) (Nat.le_of_ble_eq_true rfl) dX9_takeClause_152) (fun r7 => ?_)
  refine g_if_eq (pc := 155) (tgt := 162) C dX9_takeClause_155 (by decide) ?_ ?_
  · exact g_vret (pc := 162) C dX9_takeClause_162 rfl rfl
  · refine g_aload_n (pc := 158) C dX9_takeClause_158 rfl 0 rfl ?_
    refine g_callV (pc := 159) C (g_runV (stk := []) C (c_X9_takeScene F r7.2) rfl rfl rfl kd_95 rfl wC_X9_takeScene wI_X9_takeScene wV_X9_takeScene wi_X9 wm_X9_150 hy_X9_takeScene (by decide) (Nat.le_of_ble_eq_true rfl) dX9_takeClause_159) (fun r8 => ?_)
    exact g_vret (pc := 162) C dX9_takeClause_162 rfl rfl

set_option maxRecDepth 100000 in
set_option maxHeartbeats 4000000 in
theorem g_X9_takeClause_b93 {X : gX} (C : gC X cX9_takeClause RX9 2 none 3 72) (F : Nat) (x1 : Int32) (s0 : Int32) (M : gM) : G X (gQm X rvV rMV) 2 M [(0, .ref (xad X 95)), (1, .int x1)] [.int s0, .ref (xad X 95)] 93 (f_X9_takeClause_b93 F x1 s0 M) := by
  unfold f_X9_takeClause_b93
  refine g_iconst (pc := 93) C dX9_takeClause_93 ic_iconst_3 ?_
  refine g_iload_n (pc := 94) C dX9_takeClause_94 rfl 1 rfl ?_
  refine g_callW (pc := 95) C (g_runV (stk := []) C (c_X9_want s0 (3 : Int32) x1 M) rfl rfl rfl kd_95 rfl wC_X9_want wI_X9_want wV_X9_want wi_X9 wm_X9_124 hy_X9_want (by decide) (Nat.le_of_ble_eq_true rfl) dX9_takeClause_95) (fun r9 => ?_)
  refine g_if_eq (pc := 98) (tgt := 162) C dX9_takeClause_98 (by decide) ?_ ?_
  · exact g_vret (pc := 162) C dX9_takeClause_162 rfl rfl
  · refine g_aload_n (pc := 101) C dX9_takeClause_101 rfl 0 rfl ?_
    refine g_callV (pc := 102) C (g_runV (stk := []) C (c_X9_takeClash F r9.2) rfl rfl rfl kd_95 rfl wC_X9_takeClash wI_X9_takeClash wV_X9_takeClash wi_X9 wm_X9_147 hy_X9_takeClash (by decide) (Nat.le_of_ble_eq_true rfl) dX9_takeClause_102) (fun r10 => ?_)
    refine g_goto (pc := 105) (tgt := 162) C dX9_takeClause_105 (by decide) ?_
    exact g_vret (pc := 162) C dX9_takeClause_162 rfl rfl

set_option maxRecDepth 100000 in
set_option maxHeartbeats 4000000 in
theorem g_X9_takeClause_b43 {X : gX} (C : gC X cX9_takeClause RX9 2 none 3 72) (F : Nat) (x1 : Int32) (s0 : Int32) (M : gM) : G X (gQm X rvV rMV) 2 M [(0, .ref (xad X 95)), (1, .int x1)] [.int s0, .ref (xad X 95)] 43 (f_X9_takeClause_b43 F x1 s0 M) := by
  unfold f_X9_takeClause_b43
  refine g_iconst (pc := 43) C dX9_takeClause_43 ic_iconst_3 ?_
  refine g_iload_n (pc := 44) C dX9_takeClause_44 rfl 1 rfl ?_
  refine g_callW (pc := 45) C (g_runV (stk := []) C (c_X9_want s0 (3 : Int32) x1 M) rfl rfl rfl kd_95 rfl wC_X9_want wI_X9_want wV_X9_want wi_X9 wm_X9_124 hy_X9_want (by decide) (Nat.le_of_ble_eq_true rfl) dX9_takeClause_45) (fun r11 => ?_)
  refine g_if_eq (pc := 48) (tgt := 162) C dX9_takeClause_48 (by decide) ?_ ?_
  · exact g_vret (pc := 162) C dX9_takeClause_162 rfl rfl
  · refine g_aload_n (pc := 51) C dX9_takeClause_51 rfl 0 rfl ?_
    refine g_callV (pc := 52) C (g_runV (stk := []) C (c_X9_takePart F r11.2) rfl rfl rfl kd_95 rfl wC_X9_takePart wI_X9_takePart wV_X9_takePart wi_X9 wm_X9_144 hy_X9_takePart (by decide) (Nat.le_of_ble_eq_true rfl) dX9_takeClause_52) (fun r12 => ?_)
    refine g_goto (pc := 55) (tgt := 162) C dX9_takeClause_55 (by decide) ?_
    exact g_vret (pc := 162) C dX9_takeClause_162 rfl rfl

set_option maxRecDepth 100000 in
set_option maxHeartbeats 4000000 in
theorem c_X9_takeClause (F : Nat)  (M : gM) : gCt yX9_takeClause cX9_takeClause 2 none 3 72 (fun ad K V => [.ref (ad 95)]) rvV rMV M (f_X9_takeClause F M) := by
  refine g_met (y := yX9_takeClause) (by decide +kernel) (fun _ _ _ => Nat.le_of_ble_eq_true rfl) (fun X C => ?_)
  show G X (gQm X rvV rMV) 2 M [(0, .ref (xad X 95))] [] 0 (f_X9_takeClause F M)
  unfold f_X9_takeClause
  refine g_aload_n (pc := 0) C dX9_takeClause_0 rfl 0 rfl ?_
  refine g_callV (pc := 1) C (g_runV (stk := []) C (c_X9_takeWord F M) rfl rfl rfl kd_95 rfl wC_X9_takeWord wI_X9_takeWord wV_X9_takeWord wi_X9 wm_X9_129 hy_X9_takeWord (by decide) (Nat.le_of_ble_eq_true rfl) dX9_takeClause_1) (fun r1 => ?_)
  refine g_aload_n (pc := 4) C dX9_takeClause_4 rfl 0 rfl ?_
  refine gf_X9_110 (pc := 5) C kd_95 dX9_takeClause_5 ?_
  refine g_lt (fun v2 => ?_)
  refine g_istore_n (pc := 8) (lv' := [(1, .int v2), (0, .ref (xad X 95))]) C dX9_takeClause_8 rfl (by decide) rfl ?_
  refine g_aload_n (pc := 9) C dX9_takeClause_9 rfl 1 rfl ?_
  refine g_iconst (pc := 10) C dX9_takeClause_10 ic_iconst_4 ?_
  refine g_bipush (pc := 11) C dX9_takeClause_11 ic_bipush_112 ?_
  refine g_bipush (pc := 13) C dX9_takeClause_13 ic_bipush_97 ?_
  refine g_bipush (pc := 15) C dX9_takeClause_15 ic_bipush_114 ?_
  refine g_bipush (pc := 17) C dX9_takeClause_17 ic_bipush_116 ?_
  refine g_iconst (pc := 19) C dX9_takeClause_19 ic_iconst_0 ?_
  refine g_callR (pc := 20) C (g_runV (stk := []) C (c_X9_isWord F (4 : Int32) (112 : Int32) (97 : Int32) (114 : Int32) (116 : Int32) (0 : Int32) r1) rfl rfl rfl kd_95 rfl wC_X9_isWord wI_X9_isWord wV_X9_isWord wi_X9 wm_X9_132 hy_X9_isWord (by decide) (Nat.le_of_ble_eq_true rfl) dX9_takeClause_20) (fun r3 => ?_)
  refine g_if_eq (pc := 23) (tgt := 58) C dX9_takeClause_23 (by decide) ?_ ?_
  · refine g_aload_n (pc := 58) C dX9_takeClause_58 rfl 1 rfl ?_
    refine g_iconst (pc := 59) C dX9_takeClause_59 ic_iconst_5 ?_
    refine g_bipush (pc := 60) C dX9_takeClause_60 ic_bipush_99 ?_
    refine g_bipush (pc := 62) C dX9_takeClause_62 ic_bipush_108 ?_
    refine g_bipush (pc := 64) C dX9_takeClause_64 ic_bipush_97 ?_
    refine g_bipush (pc := 66) C dX9_takeClause_66 ic_bipush_115 ?_
    refine g_bipush (pc := 68) C dX9_takeClause_68 ic_bipush_104 ?_
    refine g_callR (pc := 70) C (g_runV (stk := []) C (c_X9_isWord F (5 : Int32) (99 : Int32) (108 : Int32) (97 : Int32) (115 : Int32) (104 : Int32) r1) rfl rfl rfl kd_95 rfl wC_X9_isWord wI_X9_isWord wV_X9_isWord wi_X9 wm_X9_132 hy_X9_isWord (by decide) (Nat.le_of_ble_eq_true rfl) dX9_takeClause_70) (fun r4 => ?_)
    refine g_if_eq (pc := 73) (tgt := 108) C dX9_takeClause_73 (by decide) ?_ ?_
    · refine g_aload_n (pc := 108) C dX9_takeClause_108 rfl 1 rfl ?_
      refine g_aload_n (pc := 109) C dX9_takeClause_109 rfl 1 rfl ?_
      refine g_iconst (pc := 110) C dX9_takeClause_110 ic_iconst_5 ?_
      refine g_bipush (pc := 111) C dX9_takeClause_111 ic_bipush_115 ?_
      refine g_bipush (pc := 113) C dX9_takeClause_113 ic_bipush_99 ?_
      refine g_bipush (pc := 115) C dX9_takeClause_115 ic_bipush_101 ?_
      refine g_bipush (pc := 117) C dX9_takeClause_117 ic_bipush_110 ?_
      refine g_bipush (pc := 119) C dX9_takeClause_119 ic_bipush_101 ?_
      refine g_callR (pc := 121) C (g_runV (stk := [.ref (xad X 95)]) C (c_X9_isWord F (5 : Int32) (115 : Int32) (99 : Int32) (101 : Int32) (110 : Int32) (101 : Int32) r1) rfl rfl rfl kd_95 rfl wC_X9_isWord wI_X9_isWord wV_X9_isWord wi_X9 wm_X9_132 hy_X9_isWord (by decide) (Nat.le_of_ble_eq_true rfl) dX9_takeClause_121) (fun r5 => ?_)
      refine g_iconst (pc := 124) C dX9_takeClause_124 ic_iconst_1 ?_
      refine g_iload_n (pc := 125) C dX9_takeClause_125 rfl 0 rfl ?_
      refine g_callW (pc := 126) C (g_runV (stk := []) C (c_X9_want r5 (1 : Int32) v2 r1) rfl rfl rfl kd_95 rfl wC_X9_want wI_X9_want wV_X9_want wi_X9 wm_X9_124 hy_X9_want (by decide) (Nat.le_of_ble_eq_true rfl) dX9_takeClause_126) (fun r6 => ?_)
      refine g_if_eq (pc := 129) (tgt := 162) C dX9_takeClause_129 (by decide) ?_ ?_
      · exact g_vret (pc := 162) C dX9_takeClause_162 rfl rfl
      · refine g_aload_n (pc := 132) C dX9_takeClause_132 rfl 1 rfl ?_
        refine g_aload_n (pc := 133) C dX9_takeClause_133 rfl 1 rfl ?_
        refine gf_X9_47 (pc := 134) (u := 108) C kd_95 rfl dX9_takeClause_134 ?_
        refine g_bipush (pc := 137) C dX9_takeClause_137 ic_bipush_6 ?_
        refine g_iald (pc := 139) C kd_108 dX9_takeClause_139 ?_
        refine g_bipush (pc := 140) C dX9_takeClause_140 ic_bipush_8 ?_
        refine g_icmp_ge (pc := 142) (tgt := 149) C dX9_takeClause_142 (by decide) ?_ ?_
        · refine g_iconst (pc := 149) C dX9_takeClause_149 ic_iconst_0 ?_
          refine g_sub (lv' := [(0, .ref (xad X 95)), (1, .int v2)]) [1, 0] rfl ?_
          exact g_X9_takeClause_b150 C F v2 (0 : Int32) r6.2
        · refine g_iconst (pc := 145) C dX9_takeClause_145 ic_iconst_1 ?_
          refine g_goto (pc := 146) (tgt := 150) C dX9_takeClause_146 (by decide) ?_
          refine g_sub (lv' := [(0, .ref (xad X 95)), (1, .int v2)]) [1, 0] rfl ?_
          exact g_X9_takeClause_b150 C F v2 (1 : Int32) r6.2
    · refine g_aload_n (pc := 76) C dX9_takeClause_76 rfl 1 rfl ?_
      refine g_aload_n (pc := 77) C dX9_takeClause_77 rfl 1 rfl ?_
      refine gf_X9_47 (pc := 78) (u := 108) C kd_95 rfl dX9_takeClause_78 ?_
      refine g_iconst (pc := 81) C dX9_takeClause_81 ic_iconst_5 ?_
      refine g_iald (pc := 82) C kd_108 dX9_takeClause_82 ?_
      refine g_bipush (pc := 83) C dX9_takeClause_83 ic_bipush_15 ?_
      refine g_icmp_ge (pc := 85) (tgt := 92) C dX9_takeClause_85 (by decide) ?_ ?_
      · refine g_iconst (pc := 92) C dX9_takeClause_92 ic_iconst_0 ?_
        refine g_sub (lv' := [(0, .ref (xad X 95)), (1, .int v2)]) [1, 0] rfl ?_
        exact g_X9_takeClause_b93 C F v2 (0 : Int32) r1
      · refine g_iconst (pc := 88) C dX9_takeClause_88 ic_iconst_1 ?_
        refine g_goto (pc := 89) (tgt := 93) C dX9_takeClause_89 (by decide) ?_
        refine g_sub (lv' := [(0, .ref (xad X 95)), (1, .int v2)]) [1, 0] rfl ?_
        exact g_X9_takeClause_b93 C F v2 (1 : Int32) r1
  · refine g_aload_n (pc := 26) C dX9_takeClause_26 rfl 1 rfl ?_
    refine g_aload_n (pc := 27) C dX9_takeClause_27 rfl 1 rfl ?_
    refine gf_X9_47 (pc := 28) (u := 108) C kd_95 rfl dX9_takeClause_28 ?_
    refine g_iconst (pc := 31) C dX9_takeClause_31 ic_iconst_4 ?_
    refine g_iald (pc := 32) C kd_108 dX9_takeClause_32 ?_
    refine g_bipush (pc := 33) C dX9_takeClause_33 ic_bipush_10 ?_
    refine g_icmp_ge (pc := 35) (tgt := 42) C dX9_takeClause_35 (by decide) ?_ ?_
    · refine g_iconst (pc := 42) C dX9_takeClause_42 ic_iconst_0 ?_
      refine g_sub (lv' := [(0, .ref (xad X 95)), (1, .int v2)]) [1, 0] rfl ?_
      exact g_X9_takeClause_b43 C F v2 (0 : Int32) r1
    · refine g_iconst (pc := 38) C dX9_takeClause_38 ic_iconst_1 ?_
      refine g_goto (pc := 39) (tgt := 43) C dX9_takeClause_39 (by decide) ?_
      refine g_sub (lv' := [(0, .ref (xad X 95)), (1, .int v2)]) [1, 0] rfl ?_
      exact g_X9_takeClause_b43 C F v2 (1 : Int32) r1

/-! X9_tear -/
set_option maxRecDepth 100000 in
set_option maxHeartbeats 4000000 in
theorem c_X9_tear   (M : gM) : gCt yX9_tear cX9_tear 2 (some .int) 0 0 (fun ad K V => [.ref (ad 95)]) rvW rMW M (f_X9_tear M) := by
  refine g_met (y := yX9_tear) (by decide +kernel) (fun _ _ _ => Nat.le_of_ble_eq_true rfl) (fun X C => ?_)
  show G X (gQm X rvW rMW) 2 M [(0, .ref (xad X 95))] [] 0 (f_X9_tear M)
  unfold f_X9_tear
  refine g_aload_n (pc := 0) C dX9_tear_0 rfl 0 rfl ?_
  refine gf_X9_159 (pc := 1) C kd_95 dX9_tear_1 ?_
  refine g_aload_n (pc := 4) C dX9_tear_4 rfl 0 rfl ?_
  refine gf_X9_156 (pc := 5) C kd_95 dX9_tear_5 ?_
  refine g_iadd (pc := 8) C dX9_tear_8 ?_
  refine g_lt (fun v1 => ?_)
  refine g_istore_n (pc := 9) (lv' := [(1, .int v1), (0, .ref (xad X 95))]) C dX9_tear_9 rfl (by decide) rfl ?_
  refine g_aload_n (pc := 10) C dX9_tear_10 rfl 1 rfl ?_
  refine g_iconst (pc := 11) C dX9_tear_11 ic_iconst_0 ?_
  refine gp_X9_159 (pc := 12) C kd_95 dX9_tear_12 ?_
  refine g_ltM (fun M2 => ?_)
  refine g_aload_n (pc := 15) C dX9_tear_15 rfl 1 rfl ?_
  refine g_iconst (pc := 16) C dX9_tear_16 ic_iconst_0 ?_
  refine gp_X9_156 (pc := 17) C kd_95 dX9_tear_17 ?_
  refine g_ltM (fun M3 => ?_)
  refine g_iload_n (pc := 20) C dX9_tear_20 rfl 0 rfl ?_
  exact g_iret (pc := 21) C dX9_tear_21 rfl rfl

/-! X9_told -/
set_option maxRecDepth 100000 in
set_option maxHeartbeats 4000000 in
theorem c_X9_told (F : Nat) (a0 : Int32)  (M : gM) : gCt yX9_told cX9_told 2 (some .int) 3 68 (fun ad K V => [.ref (ad 95), .int a0]) rvR (rMR M) M (f_X9_told F a0 M) := by
  refine g_met (y := yX9_told) (by decide +kernel) (fun _ _ _ => Nat.le_of_ble_eq_true rfl) (fun X C => ?_)
  show G X (gQm X rvR (rMR M)) 2 M [(0, .ref (xad X 95)), (1, .int a0)] [] 0 (f_X9_told F a0 M)
  unfold f_X9_told
  refine g_iload_n (pc := 0) C dX9_told_0 rfl 1 rfl ?_
  refine g_case (pc := 1) (tgt := 60) (ai := 0) C dX9_told_1 (by decide) (by decide) (by decide) rfl (by decide) ?_ (fun hc1 => ?_)
  · refine g_aload_n (pc := 60) C dX9_told_60 rfl 0 rfl ?_
    refine gf_X9_47 (pc := 61) (u := 108) C kd_95 rfl dX9_told_61 ?_
    refine g_iconst (pc := 64) C dX9_told_64 ic_iconst_0 ?_
    refine g_iald (pc := 65) C kd_108 dX9_told_65 ?_
    exact g_iret (pc := 66) C dX9_told_66 rfl rfl
  refine g_case (pc := 1) (tgt := 67) (ai := 1) C dX9_told_1 (by decide) (by decide) (by decide) rfl (by decide) ?_ (fun hc2 => ?_)
  · refine g_aload_n (pc := 67) C dX9_told_67 rfl 0 rfl ?_
    refine gf_X9_47 (pc := 68) (u := 108) C kd_95 rfl dX9_told_68 ?_
    refine g_iconst (pc := 71) C dX9_told_71 ic_iconst_1 ?_
    refine g_iald (pc := 72) C kd_108 dX9_told_72 ?_
    exact g_iret (pc := 73) C dX9_told_73 rfl rfl
  refine g_case (pc := 1) (tgt := 74) (ai := 2) C dX9_told_1 (by decide) (by decide) (by decide) rfl (by decide) ?_ (fun hc3 => ?_)
  · refine g_aload_n (pc := 74) C dX9_told_74 rfl 0 rfl ?_
    refine g_callR (pc := 75) C (g_runV (stk := []) C (c_X9_clashMany F M) rfl rfl rfl kd_95 rfl wC_X9_clashMany wI_X9_clashMany wV_X9_clashMany wi_X9 wm_X9_174 hy_X9_clashMany (by decide) (Nat.le_of_ble_eq_true rfl) dX9_told_75) (fun r4 => ?_)
    exact g_iret (pc := 78) C dX9_told_78 rfl rfl
  refine g_case (pc := 1) (tgt := 79) (ai := 3) C dX9_told_1 (by decide) (by decide) (by decide) rfl (by decide) ?_ (fun hc5 => ?_)
  · refine g_aload_n (pc := 79) C dX9_told_79 rfl 0 rfl ?_
    refine gf_X9_94 (pc := 80) C kd_95 dX9_told_80 ?_
    exact g_iret (pc := 83) C dX9_told_83 rfl rfl
  refine g_case (pc := 1) (tgt := 84) (ai := 4) C dX9_told_1 (by decide) (by decide) (by decide) rfl (by decide) ?_ (fun hc6 => ?_)
  · refine g_aload_n (pc := 84) C dX9_told_84 rfl 0 rfl ?_
    refine gf_X9_7 (pc := 85) (u := 96) C kd_95 rfl dX9_told_85 ?_
    refine g_bipush (pc := 88) C dX9_told_88 ic_bipush_31 ?_
    refine g_iald (pc := 90) C kd_96 dX9_told_90 ?_
    exact g_iret (pc := 91) C dX9_told_91 rfl rfl
  refine g_case (pc := 1) (tgt := 92) (ai := 5) C dX9_told_1 (by decide) (by decide) (by decide) rfl (by decide) ?_ (fun hc7 => ?_)
  · refine g_aload_n (pc := 92) C dX9_told_92 rfl 0 rfl ?_
    refine gf_X9_7 (pc := 93) (u := 96) C kd_95 rfl dX9_told_93 ?_
    refine g_bipush (pc := 96) C dX9_told_96 ic_bipush_30 ?_
    refine g_iald (pc := 98) C kd_96 dX9_told_98 ?_
    exact g_iret (pc := 99) C dX9_told_99 rfl rfl
  refine g_case (pc := 1) (tgt := 100) (ai := 6) C dX9_told_1 (by decide) (by decide) (by decide) rfl (by decide) ?_ (fun hc8 => ?_)
  · refine g_aload_n (pc := 100) C dX9_told_100 rfl 0 rfl ?_
    refine gf_X9_7 (pc := 101) (u := 96) C kd_95 rfl dX9_told_101 ?_
    refine g_bipush (pc := 104) C dX9_told_104 ic_bipush_32 ?_
    refine g_iald (pc := 106) C kd_96 dX9_told_106 ?_
    exact g_iret (pc := 107) C dX9_told_107 rfl rfl
  refine g_case (pc := 1) (tgt := 108) (ai := 7) C dX9_told_1 (by decide) (by decide) (by decide) rfl (by decide) ?_ (fun hc9 => ?_)
  · refine g_aload_n (pc := 108) C dX9_told_108 rfl 0 rfl ?_
    refine gf_X9_156 (pc := 109) C kd_95 dX9_told_109 ?_
    exact g_iret (pc := 112) C dX9_told_112 rfl rfl
  refine g_case (pc := 1) (tgt := 113) (ai := 8) C dX9_told_1 (by decide) (by decide) (by decide) rfl (by decide) ?_ (fun hc10 => ?_)
  · refine g_aload_n (pc := 113) C dX9_told_113 rfl 0 rfl ?_
    refine gf_X9_159 (pc := 114) C kd_95 dX9_told_114 ?_
    exact g_iret (pc := 117) C dX9_told_117 rfl rfl
  refine g_case (pc := 1) (tgt := 118) (ai := 9) C dX9_told_1 (by decide) (by decide) (by decide) rfl (by decide) ?_ (fun hc11 => ?_)
  · refine g_aload_n (pc := 118) C dX9_told_118 rfl 0 rfl ?_
    refine gf_X9_165 (pc := 119) C kd_95 dX9_told_119 ?_
    exact g_iret (pc := 122) C dX9_told_122 rfl rfl
  refine g_case (pc := 1) (tgt := 123) (ai := 10) C dX9_told_1 (by decide) (by decide) (by decide) rfl (by decide) ?_ (fun hc12 => ?_)
  · refine g_aload_n (pc := 123) C dX9_told_123 rfl 0 rfl ?_
    refine g_iconst (pc := 124) C dX9_told_124 ic_iconst_0 ?_
    refine g_callR (pc := 125) C (g_runV (stk := []) C (c_X9_widthsIn F (0 : Int32) M) rfl rfl rfl kd_95 rfl wC_X9_widthsIn wI_X9_widthsIn wV_X9_widthsIn wi_X9 wm_X9_177 hy_X9_widthsIn (by decide) (Nat.le_of_ble_eq_true rfl) dX9_told_125) (fun r13 => ?_)
    exact g_iret (pc := 128) C dX9_told_128 rfl rfl
  refine g_dflt (pc := 1) (tgt := 129) C dX9_told_1 (by omega) (by decide) ?_
  refine g_ldc (pc := 129) C wk_X9_93 dX9_told_129 ?_
  exact g_iret (pc := 131) C dX9_told_131 rfl rfl

/-! X9_town -/
set_option maxRecDepth 100000 in
set_option maxHeartbeats 4000000 in
theorem g_X9_town_h280_b {X : gX} (C : gC X cX9_town RX9 2 (some .int) 4 93) (F : Nat) (k280 : Int32 → gM → Option (Int32 × gM)) (hk280 : ∀ (x1 : Int32) (M : gM), G X (gQm X rvW rMW) 2 M [(0, .ref (xad X 95)), (1, .int x1)] [] 280 (k280 x1 M)) (x1 : Int32) (M : gM) : G X (gQm X rvW rMW) 2 M [(0, .ref (xad X 95)), (1, .int x1)] [] 280 (f_X9_town_h280_b F k280 x1 M) := by
  unfold f_X9_town_h280_b
  refine g_iload_n (pc := 280) C dX9_town_280 rfl 1 rfl ?_
  refine g_bipush (pc := 281) C dX9_town_281 ic_bipush_8 ?_
  refine g_icmp_ge (pc := 283) (tgt := 337) C dX9_town_283 (by decide) ?_ ?_
  · refine g_aload_n (pc := 337) C dX9_town_337 rfl 0 rfl ?_
    refine gf_X9_7 (pc := 338) (u := 96) C kd_95 rfl dX9_town_338 ?_
    refine g_bipush (pc := 341) C dX9_town_341 ic_bipush_30 ?_
    refine g_iconst (pc := 343) C dX9_town_343 ic_iconst_0 ?_
    refine g_iast (pc := 344) C kd_96 dX9_town_344 ?_
    refine g_ltM (fun M10 => ?_)
    refine g_aload_n (pc := 345) C dX9_town_345 rfl 0 rfl ?_
    refine gf_X9_7 (pc := 346) (u := 96) C kd_95 rfl dX9_town_346 ?_
    refine g_bipush (pc := 349) C dX9_town_349 ic_bipush_32 ?_
    refine g_iconst (pc := 351) C dX9_town_351 ic_iconst_0 ?_
    refine g_iast (pc := 352) C kd_96 dX9_town_352 ?_
    refine g_ltM (fun M11 => ?_)
    refine g_aload_n (pc := 353) C dX9_town_353 rfl 0 rfl ?_
    refine g_iconst (pc := 354) C dX9_town_354 ic_iconst_0 ?_
    refine gp_X9_156 (pc := 355) C kd_95 dX9_town_355 ?_
    refine g_ltM (fun M12 => ?_)
    refine g_aload_n (pc := 358) C dX9_town_358 rfl 0 rfl ?_
    refine g_iconst (pc := 359) C dX9_town_359 ic_iconst_0 ?_
    refine gp_X9_159 (pc := 360) C kd_95 dX9_town_360 ?_
    refine g_ltM (fun M13 => ?_)
    refine g_aload_n (pc := 363) C dX9_town_363 rfl 0 rfl ?_
    refine gf_X9_13 (pc := 364) (u := 97) C kd_95 rfl dX9_town_364 ?_
    refine g_iconst (pc := 367) C dX9_town_367 ic_iconst_0 ?_
    refine g_iconst (pc := 368) C dX9_town_368 ic_iconst_0 ?_
    refine g_zast (pc := 369) C kd_97 dX9_town_369 ?_
    refine g_ltM (fun M14 => ?_)
    refine g_aload_n (pc := 370) C dX9_town_370 rfl 0 rfl ?_
    refine gf_X9_13 (pc := 371) (u := 97) C kd_95 rfl dX9_town_371 ?_
    refine g_iconst (pc := 374) C dX9_town_374 ic_iconst_1 ?_
    refine g_iconst (pc := 375) C dX9_town_375 ic_iconst_0 ?_
    refine g_zast (pc := 376) C kd_97 dX9_town_376 ?_
    refine g_ltM (fun M15 => ?_)
    refine g_aload_n (pc := 377) C dX9_town_377 rfl 0 rfl ?_
    refine g_callV (pc := 378) C (g_runV (stk := []) C (c_X9_findLooks F M15) rfl rfl rfl kd_95 rfl wC_X9_findLooks wI_X9_findLooks wV_X9_findLooks wi_X9 wm_X9_162 hy_X9_findLooks (by decide) (Nat.le_of_ble_eq_true rfl) dX9_town_378) (fun r16 => ?_)
    refine g_aload_n (pc := 381) C dX9_town_381 rfl 0 rfl ?_
    refine gf_X9_47 (pc := 382) (u := 108) C kd_95 rfl dX9_town_382 ?_
    refine g_iconst (pc := 385) C dX9_town_385 ic_iconst_0 ?_
    refine g_iald (pc := 386) C kd_108 dX9_town_386 ?_
    exact g_iret (pc := 387) C dX9_town_387 rfl rfl
  · refine g_aload_n (pc := 286) C dX9_town_286 rfl 0 rfl ?_
    refine gf_X9_38 (pc := 287) (u := 105) C kd_95 rfl dX9_town_287 ?_
    refine g_iload_n (pc := 290) C dX9_town_290 rfl 1 rfl ?_
    refine g_aload_n (pc := 291) C dX9_town_291 rfl 0 rfl ?_
    refine gf_X9_38 (pc := 292) (u := 105) C kd_95 rfl dX9_town_292 ?_
    refine g_bipush (pc := 295) C dX9_town_295 ic_bipush_8 ?_
    refine g_iload_n (pc := 297) C dX9_town_297 rfl 1 rfl ?_
    refine g_iadd (pc := 298) C dX9_town_298 ?_
    refine g_iald (pc := 299) C kd_105 dX9_town_299 ?_
    refine g_iast (pc := 300) C kd_105 dX9_town_300 ?_
    refine g_ltM (fun M17 => ?_)
    refine g_aload_n (pc := 301) C dX9_town_301 rfl 0 rfl ?_
    refine gf_X9_41 (pc := 302) (u := 106) C kd_95 rfl dX9_town_302 ?_
    refine g_iload_n (pc := 305) C dX9_town_305 rfl 1 rfl ?_
    refine g_aload_n (pc := 306) C dX9_town_306 rfl 0 rfl ?_
    refine gf_X9_41 (pc := 307) (u := 106) C kd_95 rfl dX9_town_307 ?_
    refine g_bipush (pc := 310) C dX9_town_310 ic_bipush_8 ?_
    refine g_iload_n (pc := 312) C dX9_town_312 rfl 1 rfl ?_
    refine g_iadd (pc := 313) C dX9_town_313 ?_
    refine g_iald (pc := 314) C kd_106 dX9_town_314 ?_
    refine g_iast (pc := 315) C kd_106 dX9_town_315 ?_
    refine g_ltM (fun M18 => ?_)
    refine g_aload_n (pc := 316) C dX9_town_316 rfl 0 rfl ?_
    refine gf_X9_44 (pc := 317) (u := 107) C kd_95 rfl dX9_town_317 ?_
    refine g_iload_n (pc := 320) C dX9_town_320 rfl 1 rfl ?_
    refine g_aload_n (pc := 321) C dX9_town_321 rfl 0 rfl ?_
    refine gf_X9_44 (pc := 322) (u := 107) C kd_95 rfl dX9_town_322 ?_
    refine g_bipush (pc := 325) C dX9_town_325 ic_bipush_8 ?_
    refine g_iload_n (pc := 327) C dX9_town_327 rfl 1 rfl ?_
    refine g_iadd (pc := 328) C dX9_town_328 ?_
    refine g_iald (pc := 329) C kd_107 dX9_town_329 ?_
    refine g_iast (pc := 330) C kd_107 dX9_town_330 ?_
    refine g_ltM (fun M19 => ?_)
    refine g_iinc (pc := 331) (j := 1) (lv' := [(1, .int (x1 + (1 : Int32))), (0, .ref (xad X 95))]) C dX9_town_331 rfl (ii_1 _) (by decide) rfl ?_
    refine g_goto (pc := 334) (tgt := 280) C dX9_town_334 (by decide) ?_
    refine g_sub (lv' := [(0, .ref (xad X 95)), (1, .int (x1 + (1 : Int32)))]) [1, 0] rfl ?_
    exact hk280 (x1 + (1 : Int32)) M19

theorem g_X9_town_h280 {X : gX} (C : gC X cX9_town RX9 2 (some .int) 4 93) (F : Nat) : ∀ (n : Nat) (x1 : Int32) (M : gM), G X (gQm X rvW rMW) 2 M [(0, .ref (xad X 95)), (1, .int x1)] [] 280 (f_X9_town_h280 F n x1 M) := by
  intro n
  induction n with
  | zero =>
    intro x1 M r hr
    have hr2 : (none : Option (Int32 × gM)) = some r := hr
    cases hr2
  | succ n ih =>
    intro x1 M
    exact g_X9_town_h280_b C F _ ih x1 M
set_option maxRecDepth 100000 in
set_option maxHeartbeats 4000000 in
theorem g_X9_town_h148_b {X : gX} (C : gC X cX9_town RX9 2 (some .int) 4 93) (F : Nat) (k148 : Int32 → gM → Option (Int32 × gM)) (hk148 : ∀ (x1 : Int32) (M : gM), G X (gQm X rvW rMW) 2 M [(0, .ref (xad X 95)), (1, .int x1)] [] 148 (k148 x1 M)) (x1 : Int32) (M : gM) : G X (gQm X rvW rMW) 2 M [(0, .ref (xad X 95)), (1, .int x1)] [] 148 (f_X9_town_h148_b F k148 x1 M) := by
  unfold f_X9_town_h148_b
  refine g_iload_n (pc := 148) C dX9_town_148 rfl 1 rfl ?_
  refine g_bipush (pc := 149) C dX9_town_149 ic_bipush_10 ?_
  refine g_icmp_ge (pc := 151) (tgt := 278) C dX9_town_151 (by decide) ?_ ?_
  · refine g_iconst (pc := 278) C dX9_town_278 ic_iconst_0 ?_
    refine g_istore_n (pc := 279) (lv' := [(1, .int (0 : Int32)), (0, .ref (xad X 95))]) C dX9_town_279 rfl (by decide) rfl ?_
    refine g_sub (lv' := [(0, .ref (xad X 95)), (1, .int (0 : Int32))]) [1, 0] rfl ?_
    exact g_X9_town_h280 C F F (0 : Int32) M
  · refine g_aload_n (pc := 154) C dX9_town_154 rfl 0 rfl ?_
    refine gf_X9_17 (pc := 155) (u := 98) C kd_95 rfl dX9_town_155 ?_
    refine g_iload_n (pc := 158) C dX9_town_158 rfl 1 rfl ?_
    refine g_aload_n (pc := 159) C dX9_town_159 rfl 0 rfl ?_
    refine gf_X9_17 (pc := 160) (u := 98) C kd_95 rfl dX9_town_160 ?_
    refine g_bipush (pc := 163) C dX9_town_163 ic_bipush_10 ?_
    refine g_iload_n (pc := 165) C dX9_town_165 rfl 1 rfl ?_
    refine g_iadd (pc := 166) C dX9_town_166 ?_
    refine g_iald (pc := 167) C kd_98 dX9_town_167 ?_
    refine g_iast (pc := 168) C kd_98 dX9_town_168 ?_
    refine g_ltM (fun M20 => ?_)
    refine g_aload_n (pc := 169) C dX9_town_169 rfl 0 rfl ?_
    refine gf_X9_20 (pc := 170) (u := 99) C kd_95 rfl dX9_town_170 ?_
    refine g_iload_n (pc := 173) C dX9_town_173 rfl 1 rfl ?_
    refine g_aload_n (pc := 174) C dX9_town_174 rfl 0 rfl ?_
    refine gf_X9_20 (pc := 175) (u := 99) C kd_95 rfl dX9_town_175 ?_
    refine g_bipush (pc := 178) C dX9_town_178 ic_bipush_10 ?_
    refine g_iload_n (pc := 180) C dX9_town_180 rfl 1 rfl ?_
    refine g_iadd (pc := 181) C dX9_town_181 ?_
    refine g_iald (pc := 182) C kd_99 dX9_town_182 ?_
    refine g_iast (pc := 183) C kd_99 dX9_town_183 ?_
    refine g_ltM (fun M21 => ?_)
    refine g_aload_n (pc := 184) C dX9_town_184 rfl 0 rfl ?_
    refine gf_X9_29 (pc := 185) (u := 102) C kd_95 rfl dX9_town_185 ?_
    refine g_iload_n (pc := 188) C dX9_town_188 rfl 1 rfl ?_
    refine g_aload_n (pc := 189) C dX9_town_189 rfl 0 rfl ?_
    refine gf_X9_29 (pc := 190) (u := 102) C kd_95 rfl dX9_town_190 ?_
    refine g_bipush (pc := 193) C dX9_town_193 ic_bipush_10 ?_
    refine g_iload_n (pc := 195) C dX9_town_195 rfl 1 rfl ?_
    refine g_iadd (pc := 196) C dX9_town_196 ?_
    refine g_iald (pc := 197) C kd_102 dX9_town_197 ?_
    refine g_iast (pc := 198) C kd_102 dX9_town_198 ?_
    refine g_ltM (fun M22 => ?_)
    refine g_aload_n (pc := 199) C dX9_town_199 rfl 0 rfl ?_
    refine gf_X9_32 (pc := 200) (u := 103) C kd_95 rfl dX9_town_200 ?_
    refine g_iload_n (pc := 203) C dX9_town_203 rfl 1 rfl ?_
    refine g_aload_n (pc := 204) C dX9_town_204 rfl 0 rfl ?_
    refine gf_X9_32 (pc := 205) (u := 103) C kd_95 rfl dX9_town_205 ?_
    refine g_bipush (pc := 208) C dX9_town_208 ic_bipush_10 ?_
    refine g_iload_n (pc := 210) C dX9_town_210 rfl 1 rfl ?_
    refine g_iadd (pc := 211) C dX9_town_211 ?_
    refine g_iald (pc := 212) C kd_103 dX9_town_212 ?_
    refine g_iast (pc := 213) C kd_103 dX9_town_213 ?_
    refine g_ltM (fun M23 => ?_)
    refine g_aload_n (pc := 214) C dX9_town_214 rfl 0 rfl ?_
    refine gf_X9_35 (pc := 215) (u := 104) C kd_95 rfl dX9_town_215 ?_
    refine g_iload_n (pc := 218) C dX9_town_218 rfl 1 rfl ?_
    refine g_aload_n (pc := 219) C dX9_town_219 rfl 0 rfl ?_
    refine gf_X9_35 (pc := 220) (u := 104) C kd_95 rfl dX9_town_220 ?_
    refine g_bipush (pc := 223) C dX9_town_223 ic_bipush_10 ?_
    refine g_iload_n (pc := 225) C dX9_town_225 rfl 1 rfl ?_
    refine g_iadd (pc := 226) C dX9_town_226 ?_
    refine g_iald (pc := 227) C kd_104 dX9_town_227 ?_
    refine g_iast (pc := 228) C kd_104 dX9_town_228 ?_
    refine g_ltM (fun M24 => ?_)
    refine g_aload_n (pc := 229) C dX9_town_229 rfl 0 rfl ?_
    refine gf_X9_7 (pc := 230) (u := 96) C kd_95 rfl dX9_town_230 ?_
    refine g_iload_n (pc := 233) C dX9_town_233 rfl 1 rfl ?_
    refine g_aload_n (pc := 234) C dX9_town_234 rfl 0 rfl ?_
    refine gf_X9_23 (pc := 235) (u := 100) C kd_95 rfl dX9_town_235 ?_
    refine g_bipush (pc := 238) C dX9_town_238 ic_bipush_10 ?_
    refine g_iload_n (pc := 240) C dX9_town_240 rfl 1 rfl ?_
    refine g_iadd (pc := 241) C dX9_town_241 ?_
    refine g_iald (pc := 242) C kd_100 dX9_town_242 ?_
    refine g_iast (pc := 243) C kd_96 dX9_town_243 ?_
    refine g_ltM (fun M25 => ?_)
    refine g_aload_n (pc := 244) C dX9_town_244 rfl 0 rfl ?_
    refine gf_X9_7 (pc := 245) (u := 96) C kd_95 rfl dX9_town_245 ?_
    refine g_bipush (pc := 248) C dX9_town_248 ic_bipush_10 ?_
    refine g_iload_n (pc := 250) C dX9_town_250 rfl 1 rfl ?_
    refine g_iadd (pc := 251) C dX9_town_251 ?_
    refine g_aload_n (pc := 252) C dX9_town_252 rfl 0 rfl ?_
    refine gf_X9_26 (pc := 253) (u := 101) C kd_95 rfl dX9_town_253 ?_
    refine g_bipush (pc := 256) C dX9_town_256 ic_bipush_10 ?_
    refine g_iload_n (pc := 258) C dX9_town_258 rfl 1 rfl ?_
    refine g_iadd (pc := 259) C dX9_town_259 ?_
    refine g_iald (pc := 260) C kd_101 dX9_town_260 ?_
    refine g_iast (pc := 261) C kd_96 dX9_town_261 ?_
    refine g_ltM (fun M26 => ?_)
    refine g_aload_n (pc := 262) C dX9_town_262 rfl 0 rfl ?_
    refine gf_X9_7 (pc := 263) (u := 96) C kd_95 rfl dX9_town_263 ?_
    refine g_bipush (pc := 266) C dX9_town_266 ic_bipush_20 ?_
    refine g_iload_n (pc := 268) C dX9_town_268 rfl 1 rfl ?_
    refine g_iadd (pc := 269) C dX9_town_269 ?_
    refine g_iconst (pc := 270) C dX9_town_270 ic_iconst_0 ?_
    refine g_iast (pc := 271) C kd_96 dX9_town_271 ?_
    refine g_ltM (fun M27 => ?_)
    refine g_iinc (pc := 272) (j := 1) (lv' := [(1, .int (x1 + (1 : Int32))), (0, .ref (xad X 95))]) C dX9_town_272 rfl (ii_1 _) (by decide) rfl ?_
    refine g_goto (pc := 275) (tgt := 148) C dX9_town_275 (by decide) ?_
    refine g_sub (lv' := [(0, .ref (xad X 95)), (1, .int (x1 + (1 : Int32)))]) [1, 0] rfl ?_
    exact hk148 (x1 + (1 : Int32)) M27

theorem g_X9_town_h148 {X : gX} (C : gC X cX9_town RX9 2 (some .int) 4 93) (F : Nat) : ∀ (n : Nat) (x1 : Int32) (M : gM), G X (gQm X rvW rMW) 2 M [(0, .ref (xad X 95)), (1, .int x1)] [] 148 (f_X9_town_h148 F n x1 M) := by
  intro n
  induction n with
  | zero =>
    intro x1 M r hr
    have hr2 : (none : Option (Int32 × gM)) = some r := hr
    cases hr2
  | succ n ih =>
    intro x1 M
    exact g_X9_town_h148_b C F _ ih x1 M
set_option maxRecDepth 100000 in
set_option maxHeartbeats 4000000 in
theorem g_X9_town_b101 {X : gX} (C : gC X cX9_town RX9 2 (some .int) 4 93) (F : Nat) (M : gM) : G X (gQm X rvW rMW) 2 M [(0, .ref (xad X 95))] [] 101 (f_X9_town_b101 F M) := by
  unfold f_X9_town_b101
  refine g_aload_n (pc := 101) C dX9_town_101 rfl 0 rfl ?_
  refine g_iconst (pc := 102) C dX9_town_102 ic_iconst_0 ?_
  refine gp_X9_94 (pc := 103) C kd_95 dX9_town_103 ?_
  refine g_ltM (fun M7 => ?_)
  refine g_aload_n (pc := 106) C dX9_town_106 rfl 0 rfl ?_
  refine gf_X9_103 (pc := 107) C kd_95 dX9_town_107 ?_
  refine g_if_le (pc := 110) (tgt := 121) C dX9_town_110 (by decide) ?_ ?_
  · refine g_aload_n (pc := 121) C dX9_town_121 rfl 0 rfl ?_
    refine gf_X9_47 (pc := 122) (u := 108) C kd_95 rfl dX9_town_122 ?_
    refine g_iconst (pc := 125) C dX9_town_125 ic_iconst_0 ?_
    refine g_aload_n (pc := 126) C dX9_town_126 rfl 0 rfl ?_
    refine gf_X9_47 (pc := 127) (u := 108) C kd_95 rfl dX9_town_127 ?_
    refine g_iconst (pc := 130) C dX9_town_130 ic_iconst_4 ?_
    refine g_iald (pc := 131) C kd_108 dX9_town_131 ?_
    refine g_iast (pc := 132) C kd_108 dX9_town_132 ?_
    refine g_ltM (fun M8 => ?_)
    refine g_aload_n (pc := 133) C dX9_town_133 rfl 0 rfl ?_
    refine gf_X9_47 (pc := 134) (u := 108) C kd_95 rfl dX9_town_134 ?_
    refine g_iconst (pc := 137) C dX9_town_137 ic_iconst_1 ?_
    refine g_aload_n (pc := 138) C dX9_town_138 rfl 0 rfl ?_
    refine gf_X9_47 (pc := 139) (u := 108) C kd_95 rfl dX9_town_139 ?_
    refine g_bipush (pc := 142) C dX9_town_142 ic_bipush_6 ?_
    refine g_iald (pc := 144) C kd_108 dX9_town_144 ?_
    refine g_iast (pc := 145) C kd_108 dX9_town_145 ?_
    refine g_ltM (fun M9 => ?_)
    refine g_iconst (pc := 146) C dX9_town_146 ic_iconst_0 ?_
    refine g_istore_n (pc := 147) (lv' := [(1, .int (0 : Int32)), (0, .ref (xad X 95))]) C dX9_town_147 rfl (by decide) rfl ?_
    refine g_sub (lv' := [(0, .ref (xad X 95)), (1, .int (0 : Int32))]) [1, 0] rfl ?_
    exact g_X9_town_h148 C F F (0 : Int32) M9
  · refine g_bipush (pc := 113) C dX9_town_113 ic_bipush_m10 ?_
    refine g_aload_n (pc := 115) C dX9_town_115 rfl 0 rfl ?_
    refine gf_X9_103 (pc := 116) C kd_95 dX9_town_116 ?_
    refine g_isub (pc := 119) C dX9_town_119 ?_
    exact g_iret (pc := 120) C dX9_town_120 rfl rfl

set_option maxRecDepth 100000 in
set_option maxHeartbeats 4000000 in
theorem g_X9_town_b77 {X : gX} (C : gC X cX9_town RX9 2 (some .int) 4 93) (F : Nat) (k37 : gM → Option (Int32 × gM)) (hk37 : ∀ (M : gM), G X (gQm X rvW rMW) 2 M [(0, .ref (xad X 95))] [] 37 (k37 M)) (s0 : Int32) (M : gM) : G X (gQm X rvW rMW) 2 M [(0, .ref (xad X 95))] [.int s0, .ref (xad X 95)] 77 (f_X9_town_b77 F k37 s0 M) := by
  unfold f_X9_town_b77
  refine g_iconst (pc := 77) C dX9_town_77 ic_iconst_1 ?_
  refine g_aload_n (pc := 78) C dX9_town_78 rfl 0 rfl ?_
  refine gf_X9_100 (pc := 79) C kd_95 dX9_town_79 ?_
  refine g_callW (pc := 82) C (g_runV (stk := []) C (c_X9_want s0 (1 : Int32) (M 95 15) M) rfl rfl rfl kd_95 rfl wC_X9_want wI_X9_want wV_X9_want wi_X9 wm_X9_124 hy_X9_want (by decide) (Nat.le_of_ble_eq_true rfl) dX9_town_82) (fun r31 => ?_)
  refine g_if_eq (pc := 85) (tgt := 37) C dX9_town_85 (by decide) ?_ ?_
  · exact hk37 r31.2
  · refine g_aload_n (pc := 88) C dX9_town_88 rfl 0 rfl ?_
    refine g_dup (pc := 89) C dX9_town_89 rfl ?_
    refine gf_X9_100 (pc := 90) C kd_95 dX9_town_90 ?_
    refine g_iconst (pc := 93) C dX9_town_93 ic_iconst_1 ?_
    refine g_iadd (pc := 94) C dX9_town_94 ?_
    refine gp_X9_100 (pc := 95) C kd_95 dX9_town_95 ?_
    refine g_ltM (fun M32 => ?_)
    refine g_goto (pc := 98) (tgt := 37) C dX9_town_98 (by decide) ?_
    exact hk37 M32

set_option maxRecDepth 100000 in
set_option maxHeartbeats 4000000 in
theorem g_X9_town_h37_b {X : gX} (C : gC X cX9_town RX9 2 (some .int) 4 93) (F : Nat) (k37 : gM → Option (Int32 × gM)) (hk37 : ∀ (M : gM), G X (gQm X rvW rMW) 2 M [(0, .ref (xad X 95))] [] 37 (k37 M)) (M : gM) : G X (gQm X rvW rMW) 2 M [(0, .ref (xad X 95))] [] 37 (f_X9_town_h37_b F k37 M) := by
  unfold f_X9_town_h37_b
  refine g_aload_n (pc := 37) C dX9_town_37 rfl 0 rfl ?_
  refine gf_X9_103 (pc := 38) C kd_95 dX9_town_38 ?_
  refine g_if_ne (pc := 41) (tgt := 101) C dX9_town_41 (by decide) ?_ ?_
  · exact g_X9_town_b101 C F M
  · refine g_aload_n (pc := 44) C dX9_town_44 rfl 0 rfl ?_
    refine g_callW (pc := 45) C (g_runV (stk := []) C (c_X9_here F M) rfl rfl rfl kd_95 rfl wC_X9_here wI_X9_here wV_X9_here wi_X9 wm_X9_106 hy_X9_here (by decide) (Nat.le_of_ble_eq_true rfl) dX9_town_45) (fun r28 => ?_)
    refine g_if_lt (pc := 48) (tgt := 101) C dX9_town_48 (by decide) ?_ ?_
    · exact g_X9_town_b101 C F r28.2
    · refine g_aload_n (pc := 51) C dX9_town_51 rfl 0 rfl ?_
      refine g_callV (pc := 52) C (g_runV (stk := []) C (c_X9_takeClause F r28.2) rfl rfl rfl kd_95 rfl wC_X9_takeClause wI_X9_takeClause wV_X9_takeClause wi_X9 wm_X9_153 hy_X9_takeClause (by decide) (Nat.le_of_ble_eq_true rfl) dX9_town_52) (fun r29 => ?_)
      refine g_aload_n (pc := 55) C dX9_town_55 rfl 0 rfl ?_
      refine gf_X9_103 (pc := 56) C kd_95 dX9_town_56 ?_
      refine g_if_ne (pc := 59) (tgt := 37) C dX9_town_59 (by decide) ?_ ?_
      · exact hk37 r29
      · refine g_aload_n (pc := 62) C dX9_town_62 rfl 0 rfl ?_
        refine g_aload_n (pc := 63) C dX9_town_63 rfl 0 rfl ?_
        refine g_callW (pc := 64) C (g_runV (stk := [.ref (xad X 95)]) C (c_X9_here F r29) rfl rfl rfl kd_95 rfl wC_X9_here wI_X9_here wV_X9_here wi_X9 wm_X9_106 hy_X9_here (by decide) (Nat.le_of_ble_eq_true rfl) dX9_town_64) (fun r30 => ?_)
        refine g_bipush (pc := 67) C dX9_town_67 ic_bipush_59 ?_
        refine g_icmp_ne (pc := 69) (tgt := 76) C dX9_town_69 (by decide) ?_ ?_
        · refine g_iconst (pc := 76) C dX9_town_76 ic_iconst_0 ?_
          exact g_X9_town_b77 C F k37 hk37 (0 : Int32) r30.2
        · refine g_iconst (pc := 72) C dX9_town_72 ic_iconst_1 ?_
          refine g_goto (pc := 73) (tgt := 77) C dX9_town_73 (by decide) ?_
          exact g_X9_town_b77 C F k37 hk37 (1 : Int32) r30.2

theorem g_X9_town_h37 {X : gX} (C : gC X cX9_town RX9 2 (some .int) 4 93) (F : Nat) : ∀ (n : Nat) (M : gM), G X (gQm X rvW rMW) 2 M [(0, .ref (xad X 95))] [] 37 (f_X9_town_h37 F n M) := by
  intro n
  induction n with
  | zero =>
    intro M r hr
    have hr2 : (none : Option (Int32 × gM)) = some r := hr
    cases hr2
  | succ n ih =>
    intro M
    exact g_X9_town_h37_b C F _ ih M
set_option maxRecDepth 100000 in
set_option maxHeartbeats 4000000 in
theorem c_X9_town (F : Nat)  (M : gM) : gCt yX9_town cX9_town 2 (some .int) 4 93 (fun ad K V => [.ref (ad 95)]) rvW rMW M (f_X9_town F M) := by
  refine g_met (y := yX9_town) (by decide +kernel) (fun _ _ _ => Nat.le_of_ble_eq_true rfl) (fun X C => ?_)
  show G X (gQm X rvW rMW) 2 M [(0, .ref (xad X 95))] [] 0 (f_X9_town F M)
  unfold f_X9_town
  refine g_aload_n (pc := 0) C dX9_town_0 rfl 0 rfl ?_
  refine g_iconst (pc := 1) C dX9_town_1 ic_iconst_0 ?_
  refine gp_X9_100 (pc := 2) C kd_95 dX9_town_2 ?_
  refine g_ltM (fun M1 => ?_)
  refine g_aload_n (pc := 5) C dX9_town_5 rfl 0 rfl ?_
  refine g_iconst (pc := 6) C dX9_town_6 ic_iconst_0 ?_
  refine gp_X9_103 (pc := 7) C kd_95 dX9_town_7 ?_
  refine g_ltM (fun M2 => ?_)
  refine g_aload_n (pc := 10) C dX9_town_10 rfl 0 rfl ?_
  refine g_iconst (pc := 11) C dX9_town_11 ic_iconst_m1 ?_
  refine gp_X9_53 (pc := 12) C kd_95 dX9_town_12 ?_
  refine g_ltM (fun M3 => ?_)
  refine g_aload_n (pc := 15) C dX9_town_15 rfl 0 rfl ?_
  refine gf_X9_47 (pc := 16) (u := 108) C kd_95 rfl dX9_town_16 ?_
  refine g_iconst (pc := 19) C dX9_town_19 ic_iconst_4 ?_
  refine g_iconst (pc := 20) C dX9_town_20 ic_iconst_0 ?_
  refine g_iast (pc := 21) C kd_108 dX9_town_21 ?_
  refine g_ltM (fun M4 => ?_)
  refine g_aload_n (pc := 22) C dX9_town_22 rfl 0 rfl ?_
  refine gf_X9_47 (pc := 23) (u := 108) C kd_95 rfl dX9_town_23 ?_
  refine g_iconst (pc := 26) C dX9_town_26 ic_iconst_5 ?_
  refine g_iconst (pc := 27) C dX9_town_27 ic_iconst_0 ?_
  refine g_iast (pc := 28) C kd_108 dX9_town_28 ?_
  refine g_ltM (fun M5 => ?_)
  refine g_aload_n (pc := 29) C dX9_town_29 rfl 0 rfl ?_
  refine gf_X9_47 (pc := 30) (u := 108) C kd_95 rfl dX9_town_30 ?_
  refine g_bipush (pc := 33) C dX9_town_33 ic_bipush_6 ?_
  refine g_iconst (pc := 35) C dX9_town_35 ic_iconst_0 ?_
  refine g_iast (pc := 36) C kd_108 dX9_town_36 ?_
  refine g_ltM (fun M6 => ?_)
  exact g_X9_town_h37 C F F M6

/-! X9_wedding -/
set_option maxRecDepth 100000 in
set_option maxHeartbeats 4000000 in
theorem g_X9_wedding_b108 {X : gX} (C : gC X cX9_wedding RX9 9 (some .int) 2 49) (F : Nat) (a0 : Int32) (a1 : Int32) (M : gM) (k34 : Int32 → Int32 → Int32 → Option Int32) (k49 : Int32 → Int32 → Int32 → Int32 → Option Int32) (hk34 : ∀ (x3 : Int32) (x4 : Int32) (x5 : Int32), G X (gQm X rvR (rMR M)) 9 M [(0, .ref (xad X 95)), (1, .int a0), (2, .int a1), (3, .int x3), (4, .int x4), (5, .int x5)] [] 34 (k34 x3 x4 x5)) (hk49 : ∀ (x3 : Int32) (x4 : Int32) (x5 : Int32) (x6 : Int32), G X (gQm X rvR (rMR M)) 9 M [(0, .ref (xad X 95)), (1, .int a0), (2, .int a1), (3, .int x3), (4, .int x4), (5, .int x5), (6, .int x6)] [] 49 (k49 x3 x4 x5 x6)) (x3 : Int32) (x4 : Int32) (x5 : Int32) (x6 : Int32) (s0 : Int32) : G X (gQm X rvR (rMR M)) 9 M [(0, .ref (xad X 95)), (1, .int a0), (2, .int a1), (3, .int x3), (4, .int x4), (5, .int x5), (6, .int x6)] [.int s0] 108 (f_X9_wedding_b108 F a0 a1 M k34 k49 x3 x4 x5 x6 s0) := by
  unfold f_X9_wedding_b108
  refine g_istore (pc := 108) (lv' := [(7, .int s0), (0, .ref (xad X 95)), (1, .int a0), (2, .int a1), (3, .int x3), (4, .int x4), (5, .int x5), (6, .int x6)]) C dX9_wedding_108 (by decide) rfl ?_
  refine g_aload_n (pc := 110) C dX9_wedding_110 rfl 1 rfl ?_
  refine g_bipush (pc := 111) C dX9_wedding_111 ic_bipush_10 ?_
  refine g_aload_n (pc := 113) C dX9_wedding_113 rfl 1 rfl ?_
  refine gf_X9_57 (pc := 114) (u := 110) C kd_95 rfl dX9_wedding_114 ?_
  refine g_iload (pc := 117) C dX9_wedding_117 6 rfl ?_
  refine g_iald (pc := 119) C kd_110 dX9_wedding_119 ?_
  refine g_aload_n (pc := 120) C dX9_wedding_120 rfl 1 rfl ?_
  refine gf_X9_57 (pc := 121) (u := 110) C kd_95 rfl dX9_wedding_121 ?_
  refine g_iload (pc := 124) C dX9_wedding_124 7 rfl ?_
  refine g_iald (pc := 126) C kd_110 dX9_wedding_126 ?_
  refine g_ior (pc := 127) C dX9_wedding_127 ?_
  refine g_callR (pc := 128) C (g_runV (stk := []) C (c_X9_sumOf F (10 : Int32) ((M 110 x5.toNatClampNeg) ||| (M 110 x6.toNatClampNeg)) M) rfl rfl rfl kd_95 rfl wC_X9_sumOf wI_X9_sumOf wV_X9_sumOf wi_X9 wm_X9_171 hy_X9_sumOf (by decide) (Nat.le_of_ble_eq_true rfl) dX9_wedding_128) (fun r4 => ?_)
  refine g_istore (pc := 131) (lv' := [(8, .int r4), (7, .int s0), (0, .ref (xad X 95)), (1, .int a0), (2, .int a1), (3, .int x3), (4, .int x4), (5, .int x5), (6, .int x6)]) C dX9_wedding_131 (by decide) rfl ?_
  refine g_iload (pc := 133) C dX9_wedding_133 1 rfl ?_
  refine g_if_eq (pc := 135) (tgt := 188) C dX9_wedding_135 (by decide) ?_ ?_
  · refine g_iinc (pc := 188) (j := 8) (lv' := [(6, .int (x6 + (1 : Int32))), (8, .int r4), (7, .int s0), (0, .ref (xad X 95)), (1, .int a0), (2, .int a1), (3, .int x3), (4, .int x4), (5, .int x5)]) C dX9_wedding_188 rfl (ii_1 _) (by decide) rfl ?_
    refine g_goto (pc := 191) (tgt := 49) C dX9_wedding_191 (by decide) ?_
    refine g_sub (lv' := [(0, .ref (xad X 95)), (1, .int a0), (2, .int a1), (3, .int x3), (4, .int x4), (5, .int x5), (6, .int (x6 + (1 : Int32)))]) [3, 4, 5, 6, 7, 8, 0] rfl ?_
    exact hk49 x3 x4 x5 (x6 + (1 : Int32))
  · refine g_iload (pc := 138) C dX9_wedding_138 0 rfl ?_
    refine g_iload (pc := 140) C dX9_wedding_140 6 rfl ?_
    refine g_icmp_ge (pc := 142) (tgt := 188) C dX9_wedding_142 (by decide) ?_ ?_
    · refine g_iinc (pc := 188) (j := 8) (lv' := [(6, .int (x6 + (1 : Int32))), (8, .int r4), (7, .int s0), (0, .ref (xad X 95)), (1, .int a0), (2, .int a1), (3, .int x3), (4, .int x4), (5, .int x5)]) C dX9_wedding_188 rfl (ii_1 _) (by decide) rfl ?_
      refine g_goto (pc := 191) (tgt := 49) C dX9_wedding_191 (by decide) ?_
      refine g_sub (lv' := [(0, .ref (xad X 95)), (1, .int a0), (2, .int a1), (3, .int x3), (4, .int x4), (5, .int x5), (6, .int (x6 + (1 : Int32)))]) [3, 4, 5, 6, 7, 8, 0] rfl ?_
      exact hk49 x3 x4 x5 (x6 + (1 : Int32))
    · refine g_aload_n (pc := 145) C dX9_wedding_145 rfl 2 rfl ?_
      refine g_aload_n (pc := 146) C dX9_wedding_146 rfl 2 rfl ?_
      refine gf_X9_57 (pc := 147) (u := 110) C kd_95 rfl dX9_wedding_147 ?_
      refine g_iload (pc := 150) C dX9_wedding_150 7 rfl ?_
      refine g_iald (pc := 152) C kd_110 dX9_wedding_152 ?_
      refine g_aload_n (pc := 153) C dX9_wedding_153 rfl 2 rfl ?_
      refine gf_X9_57 (pc := 154) (u := 110) C kd_95 rfl dX9_wedding_154 ?_
      refine g_iload (pc := 157) C dX9_wedding_157 8 rfl ?_
      refine g_iald (pc := 159) C kd_110 dX9_wedding_159 ?_
      refine g_ior (pc := 160) C dX9_wedding_160 ?_
      refine g_iload_n (pc := 161) C dX9_wedding_161 rfl 3 rfl ?_
      refine g_callR (pc := 162) C (g_runV (stk := []) C (c_X9_isFree F ((M 110 x5.toNatClampNeg) ||| (M 110 x6.toNatClampNeg)) a0 M) rfl rfl rfl kd_95 rfl wC_X9_isFree wI_X9_isFree wV_X9_isFree wi_X9 wm_X9_198 hy_X9_isFree (by decide) (Nat.le_of_ble_eq_true rfl) dX9_wedding_162) (fun r5 => ?_)
      refine g_if_eq (pc := 165) (tgt := 188) C dX9_wedding_165 (by decide) ?_ ?_
      · refine g_iinc (pc := 188) (j := 8) (lv' := [(6, .int (x6 + (1 : Int32))), (8, .int r4), (7, .int s0), (0, .ref (xad X 95)), (1, .int a0), (2, .int a1), (3, .int x3), (4, .int x4), (5, .int x5)]) C dX9_wedding_188 rfl (ii_1 _) (by decide) rfl ?_
        refine g_goto (pc := 191) (tgt := 49) C dX9_wedding_191 (by decide) ?_
        refine g_sub (lv' := [(0, .ref (xad X 95)), (1, .int a0), (2, .int a1), (3, .int x3), (4, .int x4), (5, .int x5), (6, .int (x6 + (1 : Int32)))]) [3, 4, 5, 6, 7, 8, 0] rfl ?_
        exact hk49 x3 x4 x5 (x6 + (1 : Int32))
      · refine g_aload_n (pc := 168) C dX9_wedding_168 rfl 2 rfl ?_
        refine gf_X9_57 (pc := 169) (u := 110) C kd_95 rfl dX9_wedding_169 ?_
        refine g_iload (pc := 172) C dX9_wedding_172 7 rfl ?_
        refine g_iald (pc := 174) C kd_110 dX9_wedding_174 ?_
        refine g_aload_n (pc := 175) C dX9_wedding_175 rfl 2 rfl ?_
        refine gf_X9_57 (pc := 176) (u := 110) C kd_95 rfl dX9_wedding_176 ?_
        refine g_iload (pc := 179) C dX9_wedding_179 8 rfl ?_
        refine g_iald (pc := 181) C kd_110 dX9_wedding_181 ?_
        refine g_ior (pc := 182) C dX9_wedding_182 ?_
        refine g_lt (fun v6 => ?_)
        refine g_istore_n (pc := 183) (lv' := [(3, .int v6), (8, .int r4), (7, .int s0), (0, .ref (xad X 95)), (1, .int a0), (2, .int a1), (4, .int x4), (5, .int x5), (6, .int x6)]) C dX9_wedding_183 rfl (by decide) rfl ?_
        refine g_iload (pc := 184) C dX9_wedding_184 1 rfl ?_
        refine g_istore (pc := 186) (lv' := [(4, .int r4), (3, .int v6), (8, .int r4), (7, .int s0), (0, .ref (xad X 95)), (1, .int a0), (2, .int a1), (5, .int x5), (6, .int x6)]) C dX9_wedding_186 (by decide) rfl ?_
        refine g_iinc (pc := 188) (j := 8) (lv' := [(6, .int (x6 + (1 : Int32))), (4, .int r4), (3, .int v6), (8, .int r4), (7, .int s0), (0, .ref (xad X 95)), (1, .int a0), (2, .int a1), (5, .int x5)]) C dX9_wedding_188 rfl (ii_1 _) (by decide) rfl ?_
        refine g_goto (pc := 191) (tgt := 49) C dX9_wedding_191 (by decide) ?_
        refine g_sub (lv' := [(0, .ref (xad X 95)), (1, .int a0), (2, .int a1), (3, .int v6), (4, .int r4), (5, .int x5), (6, .int (x6 + (1 : Int32)))]) [5, 6, 7, 2, 1, 8, 0] rfl ?_
        exact hk49 v6 r4 x5 (x6 + (1 : Int32))

set_option maxRecDepth 100000 in
set_option maxHeartbeats 4000000 in
theorem g_X9_wedding_b107 {X : gX} (C : gC X cX9_wedding RX9 9 (some .int) 2 49) (F : Nat) (a0 : Int32) (a1 : Int32) (M : gM) (k34 : Int32 → Int32 → Int32 → Option Int32) (k49 : Int32 → Int32 → Int32 → Int32 → Option Int32) (hk34 : ∀ (x3 : Int32) (x4 : Int32) (x5 : Int32), G X (gQm X rvR (rMR M)) 9 M [(0, .ref (xad X 95)), (1, .int a0), (2, .int a1), (3, .int x3), (4, .int x4), (5, .int x5)] [] 34 (k34 x3 x4 x5)) (hk49 : ∀ (x3 : Int32) (x4 : Int32) (x5 : Int32) (x6 : Int32), G X (gQm X rvR (rMR M)) 9 M [(0, .ref (xad X 95)), (1, .int a0), (2, .int a1), (3, .int x3), (4, .int x4), (5, .int x5), (6, .int x6)] [] 49 (k49 x3 x4 x5 x6)) (x3 : Int32) (x4 : Int32) (x5 : Int32) (x6 : Int32) : G X (gQm X rvR (rMR M)) 9 M [(0, .ref (xad X 95)), (1, .int a0), (2, .int a1), (3, .int x3), (4, .int x4), (5, .int x5), (6, .int x6)] [] 107 (f_X9_wedding_b107 F a0 a1 M k34 k49 x3 x4 x5 x6) := by
  unfold f_X9_wedding_b107
  refine g_iconst (pc := 107) C dX9_wedding_107 ic_iconst_0 ?_
  exact g_X9_wedding_b108 C F a0 a1 M k34 k49 hk34 hk49 x3 x4 x5 x6 (0 : Int32)

set_option maxRecDepth 100000 in
set_option maxHeartbeats 4000000 in
theorem g_X9_wedding_h49_b {X : gX} (C : gC X cX9_wedding RX9 9 (some .int) 2 49) (F : Nat) (a0 : Int32) (a1 : Int32) (M : gM) (k34 : Int32 → Int32 → Int32 → Option Int32) (hk34 : ∀ (x3 : Int32) (x4 : Int32) (x5 : Int32), G X (gQm X rvR (rMR M)) 9 M [(0, .ref (xad X 95)), (1, .int a0), (2, .int a1), (3, .int x3), (4, .int x4), (5, .int x5)] [] 34 (k34 x3 x4 x5)) (k49 : Int32 → Int32 → Int32 → Int32 → Option Int32) (hk49 : ∀ (x3 : Int32) (x4 : Int32) (x5 : Int32) (x6 : Int32), G X (gQm X rvR (rMR M)) 9 M [(0, .ref (xad X 95)), (1, .int a0), (2, .int a1), (3, .int x3), (4, .int x4), (5, .int x5), (6, .int x6)] [] 49 (k49 x3 x4 x5 x6)) (x3 : Int32) (x4 : Int32) (x5 : Int32) (x6 : Int32) : G X (gQm X rvR (rMR M)) 9 M [(0, .ref (xad X 95)), (1, .int a0), (2, .int a1), (3, .int x3), (4, .int x4), (5, .int x5), (6, .int x6)] [] 49 (f_X9_wedding_h49_b F a0 a1 M k34 k49 x3 x4 x5 x6) := by
  unfold f_X9_wedding_h49_b
  refine g_iload (pc := 49) C dX9_wedding_49 6 rfl ?_
  refine g_aload_n (pc := 51) C dX9_wedding_51 rfl 0 rfl ?_
  refine gf_X9_165 (pc := 52) C kd_95 dX9_wedding_52 ?_
  refine g_icmp_ge (pc := 55) (tgt := 194) C dX9_wedding_55 (by decide) ?_ ?_
  · refine g_iinc (pc := 194) (j := 5) (lv' := [(5, .int (x5 + (1 : Int32))), (0, .ref (xad X 95)), (1, .int a0), (2, .int a1), (3, .int x3), (4, .int x4), (6, .int x6)]) C dX9_wedding_194 rfl (ii_1 _) (by decide) rfl ?_
    refine g_goto (pc := 197) (tgt := 34) C dX9_wedding_197 (by decide) ?_
    refine g_sub (lv' := [(0, .ref (xad X 95)), (1, .int a0), (2, .int a1), (3, .int x3), (4, .int x4), (5, .int (x5 + (1 : Int32)))]) [1, 2, 3, 4, 5, 0] rfl ?_
    exact hk34 x3 x4 (x5 + (1 : Int32))
  · refine g_aload_n (pc := 58) C dX9_wedding_58 rfl 0 rfl ?_
    refine gf_X9_57 (pc := 59) (u := 110) C kd_95 rfl dX9_wedding_59 ?_
    refine g_iload (pc := 62) C dX9_wedding_62 5 rfl ?_
    refine g_iald (pc := 64) C kd_110 dX9_wedding_64 ?_
    refine g_aload_n (pc := 65) C dX9_wedding_65 rfl 0 rfl ?_
    refine gf_X9_57 (pc := 66) (u := 110) C kd_95 rfl dX9_wedding_66 ?_
    refine g_iload (pc := 69) C dX9_wedding_69 6 rfl ?_
    refine g_iald (pc := 71) C kd_110 dX9_wedding_71 ?_
    refine g_iand (pc := 72) C dX9_wedding_72 ?_
    refine g_if_ne (pc := 73) (tgt := 107) C dX9_wedding_73 (by decide) ?_ ?_
    · exact g_X9_wedding_b107 C F a0 a1 M k34 k49 hk34 hk49 x3 x4 x5 x6
    · refine g_aload_n (pc := 76) C dX9_wedding_76 rfl 0 rfl ?_
      refine g_iconst (pc := 77) C dX9_wedding_77 ic_iconst_0 ?_
      refine g_aload_n (pc := 78) C dX9_wedding_78 rfl 0 rfl ?_
      refine gf_X9_57 (pc := 79) (u := 110) C kd_95 rfl dX9_wedding_79 ?_
      refine g_iload (pc := 82) C dX9_wedding_82 5 rfl ?_
      refine g_iald (pc := 84) C kd_110 dX9_wedding_84 ?_
      refine g_callR (pc := 85) C (g_runV (stk := []) C (c_X9_sumOf F (0 : Int32) (M 110 x5.toNatClampNeg) M) rfl rfl rfl kd_95 rfl wC_X9_sumOf wI_X9_sumOf wV_X9_sumOf wi_X9 wm_X9_171 hy_X9_sumOf (by decide) (Nat.le_of_ble_eq_true rfl) dX9_wedding_85) (fun r7 => ?_)
      refine g_aload_n (pc := 88) C dX9_wedding_88 rfl 0 rfl ?_
      refine g_iconst (pc := 89) C dX9_wedding_89 ic_iconst_0 ?_
      refine g_aload_n (pc := 90) C dX9_wedding_90 rfl 0 rfl ?_
      refine gf_X9_57 (pc := 91) (u := 110) C kd_95 rfl dX9_wedding_91 ?_
      refine g_iload (pc := 94) C dX9_wedding_94 6 rfl ?_
      refine g_iald (pc := 96) C kd_110 dX9_wedding_96 ?_
      refine g_callR (pc := 97) C (g_runV (stk := [.int r7]) C (c_X9_sumOf F (0 : Int32) (M 110 x6.toNatClampNeg) M) rfl rfl rfl kd_95 rfl wC_X9_sumOf wI_X9_sumOf wV_X9_sumOf wi_X9 wm_X9_171 hy_X9_sumOf (by decide) (Nat.le_of_ble_eq_true rfl) dX9_wedding_97) (fun r8 => ?_)
      refine g_icmp_ne (pc := 100) (tgt := 107) C dX9_wedding_100 (by decide) ?_ ?_
      · exact g_X9_wedding_b107 C F a0 a1 M k34 k49 hk34 hk49 x3 x4 x5 x6
      · refine g_iconst (pc := 103) C dX9_wedding_103 ic_iconst_1 ?_
        refine g_goto (pc := 104) (tgt := 108) C dX9_wedding_104 (by decide) ?_
        exact g_X9_wedding_b108 C F a0 a1 M k34 k49 hk34 hk49 x3 x4 x5 x6 (1 : Int32)

theorem g_X9_wedding_h49 {X : gX} (C : gC X cX9_wedding RX9 9 (some .int) 2 49) (F : Nat) (a0 : Int32) (a1 : Int32) (M : gM) (k34 : Int32 → Int32 → Int32 → Option Int32) (hk34 : ∀ (x3 : Int32) (x4 : Int32) (x5 : Int32), G X (gQm X rvR (rMR M)) 9 M [(0, .ref (xad X 95)), (1, .int a0), (2, .int a1), (3, .int x3), (4, .int x4), (5, .int x5)] [] 34 (k34 x3 x4 x5)) : ∀ (n : Nat) (x3 : Int32) (x4 : Int32) (x5 : Int32) (x6 : Int32), G X (gQm X rvR (rMR M)) 9 M [(0, .ref (xad X 95)), (1, .int a0), (2, .int a1), (3, .int x3), (4, .int x4), (5, .int x5), (6, .int x6)] [] 49 (f_X9_wedding_h49 F a0 a1 M k34 n x3 x4 x5 x6) := by
  intro n
  induction n with
  | zero =>
    intro x3 x4 x5 x6 r hr
    have hr2 : (none : Option Int32) = some r := hr
    cases hr2
  | succ n ih =>
    intro x3 x4 x5 x6
    exact g_X9_wedding_h49_b C F a0 a1 M k34 hk34 _ ih x3 x4 x5 x6
set_option maxRecDepth 100000 in
set_option maxHeartbeats 4000000 in
theorem g_X9_wedding_h34_b {X : gX} (C : gC X cX9_wedding RX9 9 (some .int) 2 49) (F : Nat) (a0 : Int32) (a1 : Int32) (M : gM) (k34 : Int32 → Int32 → Int32 → Option Int32) (hk34 : ∀ (x3 : Int32) (x4 : Int32) (x5 : Int32), G X (gQm X rvR (rMR M)) 9 M [(0, .ref (xad X 95)), (1, .int a0), (2, .int a1), (3, .int x3), (4, .int x4), (5, .int x5)] [] 34 (k34 x3 x4 x5)) (x3 : Int32) (x4 : Int32) (x5 : Int32) : G X (gQm X rvR (rMR M)) 9 M [(0, .ref (xad X 95)), (1, .int a0), (2, .int a1), (3, .int x3), (4, .int x4), (5, .int x5)] [] 34 (f_X9_wedding_h34_b F a0 a1 M k34 x3 x4 x5) := by
  unfold f_X9_wedding_h34_b
  refine g_iload (pc := 34) C dX9_wedding_34 5 rfl ?_
  refine g_aload_n (pc := 36) C dX9_wedding_36 rfl 0 rfl ?_
  refine gf_X9_165 (pc := 37) C kd_95 dX9_wedding_37 ?_
  refine g_icmp_ge (pc := 40) (tgt := 200) C dX9_wedding_40 (by decide) ?_ ?_
  · refine g_iload_n (pc := 200) C dX9_wedding_200 rfl 3 rfl ?_
    refine g_if_ge (pc := 201) (tgt := 208) C dX9_wedding_201 (by decide) ?_ ?_
    · refine g_iload_n (pc := 208) C dX9_wedding_208 rfl 2 rfl ?_
      refine g_if_ne (pc := 209) (tgt := 217) C dX9_wedding_209 (by decide) ?_ ?_
      · refine g_iload_n (pc := 217) C dX9_wedding_217 rfl 3 rfl ?_
        exact g_iret (pc := 218) C dX9_wedding_218 rfl rfl
      · refine g_iload (pc := 212) C dX9_wedding_212 4 rfl ?_
        refine g_goto (pc := 214) (tgt := 218) C dX9_wedding_214 (by decide) ?_
        exact g_iret (pc := 218) C dX9_wedding_218 rfl rfl
    · refine g_iconst (pc := 204) C dX9_wedding_204 ic_iconst_m1 ?_
      refine g_goto (pc := 205) (tgt := 218) C dX9_wedding_205 (by decide) ?_
      exact g_iret (pc := 218) C dX9_wedding_218 rfl rfl
  · refine g_iload (pc := 43) C dX9_wedding_43 5 rfl ?_
    refine g_iconst (pc := 45) C dX9_wedding_45 ic_iconst_1 ?_
    refine g_iadd (pc := 46) C dX9_wedding_46 ?_
    refine g_lt (fun v3 => ?_)
    refine g_istore (pc := 47) (lv' := [(6, .int v3), (0, .ref (xad X 95)), (1, .int a0), (2, .int a1), (3, .int x3), (4, .int x4), (5, .int x5)]) C dX9_wedding_47 (by decide) rfl ?_
    refine g_sub (lv' := [(0, .ref (xad X 95)), (1, .int a0), (2, .int a1), (3, .int x3), (4, .int x4), (5, .int x5), (6, .int v3)]) [1, 2, 3, 4, 5, 6, 0] rfl ?_
    exact g_X9_wedding_h49 C F a0 a1 M k34 hk34 F x3 x4 x5 v3

theorem g_X9_wedding_h34 {X : gX} (C : gC X cX9_wedding RX9 9 (some .int) 2 49) (F : Nat) (a0 : Int32) (a1 : Int32) (M : gM) : ∀ (n : Nat) (x3 : Int32) (x4 : Int32) (x5 : Int32), G X (gQm X rvR (rMR M)) 9 M [(0, .ref (xad X 95)), (1, .int a0), (2, .int a1), (3, .int x3), (4, .int x4), (5, .int x5)] [] 34 (f_X9_wedding_h34 F a0 a1 M n x3 x4 x5) := by
  intro n
  induction n with
  | zero =>
    intro x3 x4 x5 r hr
    have hr2 : (none : Option Int32) = some r := hr
    cases hr2
  | succ n ih =>
    intro x3 x4 x5
    exact g_X9_wedding_h34_b C F a0 a1 M _ ih x3 x4 x5
set_option maxRecDepth 100000 in
set_option maxHeartbeats 4000000 in
theorem c_X9_wedding (F : Nat) (a0 : Int32) (a1 : Int32)  (M : gM) : gCt yX9_wedding cX9_wedding 9 (some .int) 2 49 (fun ad K V => [.ref (ad 95), .int a0, .int a1]) rvR (rMR M) M (f_X9_wedding F a0 a1 M) := by
  refine g_met (y := yX9_wedding) (by decide +kernel) (fun _ _ _ => Nat.le_of_ble_eq_true rfl) (fun X C => ?_)
  show G X (gQm X rvR (rMR M)) 9 M [(0, .ref (xad X 95)), (1, .int a0), (2, .int a1)] [] 0 (f_X9_wedding F a0 a1 M)
  unfold f_X9_wedding
  refine g_iload_n (pc := 0) C dX9_wedding_0 rfl 1 rfl ?_
  refine g_i2l (pc := 1) C dX9_wedding_1 ?_
  refine g_lconst (pc := 2) (v := 0) C dX9_wedding_2 rfl ?_
  refine g_ldc2 (pc := 3) C wl_X9_251 dX9_wedding_3 ?_
  refine g_callR (pc := 6) C (g_runS (stk := []) C (c_X9_in a0.toInt64 (0 : Int64) (11 : Int64) M) rfl rfl rfl wC_X9_in wS_X9_in wi_X9 wm_X9_89 hy_X9_in (by decide) (Nat.le_of_ble_eq_true rfl) dX9_wedding_6) (fun r1 => ?_)
  refine g_if_eq (pc := 9) (tgt := 22) C dX9_wedding_9 (by decide) ?_ ?_
  · refine g_ldc (pc := 22) C wk_X9_93 dX9_wedding_22 ?_
    exact g_iret (pc := 24) C dX9_wedding_24 rfl rfl
  · refine g_iload_n (pc := 12) C dX9_wedding_12 rfl 2 rfl ?_
    refine g_i2l (pc := 13) C dX9_wedding_13 ?_
    refine g_lconst (pc := 14) (v := 0) C dX9_wedding_14 rfl ?_
    refine g_lconst (pc := 15) (v := 1) C dX9_wedding_15 rfl ?_
    refine g_callR (pc := 16) C (g_runS (stk := []) C (c_X9_in a1.toInt64 (0 : Int64) (1 : Int64) M) rfl rfl rfl wC_X9_in wS_X9_in wi_X9 wm_X9_89 hy_X9_in (by decide) (Nat.le_of_ble_eq_true rfl) dX9_wedding_16) (fun r2 => ?_)
    refine g_if_ne (pc := 19) (tgt := 25) C dX9_wedding_19 (by decide) ?_ ?_
    · refine g_iconst (pc := 25) C dX9_wedding_25 ic_iconst_m1 ?_
      refine g_istore_n (pc := 26) (lv' := [(3, .int (-1 : Int32)), (0, .ref (xad X 95)), (1, .int a0), (2, .int a1)]) C dX9_wedding_26 rfl (by decide) rfl ?_
      refine g_ldc (pc := 27) C wk_X9_209 dX9_wedding_27 ?_
      refine g_istore (pc := 29) (lv' := [(4, .int (1000000 : Int32)), (3, .int (-1 : Int32)), (0, .ref (xad X 95)), (1, .int a0), (2, .int a1)]) C dX9_wedding_29 (by decide) rfl ?_
      refine g_iconst (pc := 31) C dX9_wedding_31 ic_iconst_0 ?_
      refine g_istore (pc := 32) (lv' := [(5, .int (0 : Int32)), (4, .int (1000000 : Int32)), (3, .int (-1 : Int32)), (0, .ref (xad X 95)), (1, .int a0), (2, .int a1)]) C dX9_wedding_32 (by decide) rfl ?_
      refine g_sub (lv' := [(0, .ref (xad X 95)), (1, .int a0), (2, .int a1), (3, .int (-1 : Int32)), (4, .int (1000000 : Int32)), (5, .int (0 : Int32))]) [3, 4, 5, 2, 1, 0] rfl ?_
      exact g_X9_wedding_h34 C F a0 a1 M F (-1 : Int32) (1000000 : Int32) (0 : Int32)
    · refine g_ldc (pc := 22) C wk_X9_93 dX9_wedding_22 ?_
      exact g_iret (pc := 24) C dX9_wedding_24 rfl rfl

/-! X9_width -/
set_option maxRecDepth 100000 in
set_option maxHeartbeats 4000000 in
theorem c_X9_width (a0 : Int32) (a1 : Int32)  (M : gM) : gCt yX9_width cX9_width 4 (some .int) 2 46 (fun ad K V => [.ref (ad 95), .int a0, .int a1]) rvW rMW M (f_X9_width a0 a1 M) := by
  refine g_met (y := yX9_width) (by decide +kernel) (fun _ _ _ => Nat.le_of_ble_eq_true rfl) (fun X C => ?_)
  show G X (gQm X rvW rMW) 4 M [(0, .ref (xad X 95)), (1, .int a0), (2, .int a1)] [] 0 (f_X9_width a0 a1 M)
  unfold f_X9_width
  refine g_aload_n (pc := 0) C dX9_width_0 rfl 0 rfl ?_
  refine g_iload_n (pc := 1) C dX9_width_1 rfl 1 rfl ?_
  refine g_callR (pc := 2) C (g_runV (stk := []) C (c_X9_isPart a0 M) rfl rfl rfl kd_95 rfl wC_X9_isPart wI_X9_isPart wV_X9_isPart wi_X9 wm_X9_184 hy_X9_isPart (by decide) (Nat.le_of_ble_eq_true rfl) dX9_width_2) (fun r1 => ?_)
  refine g_if_ne (pc := 5) (tgt := 11) C dX9_width_5 (by decide) ?_ ?_
  · refine g_iload_n (pc := 11) C dX9_width_11 rfl 2 rfl ?_
    refine g_i2l (pc := 12) C dX9_width_12 ?_
    refine g_lconst (pc := 13) (v := 0) C dX9_width_13 rfl ?_
    refine g_ldc2 (pc := 14) C wl_X9_196 dX9_width_14 ?_
    refine g_callR (pc := 17) C (g_runS (stk := []) C (c_X9_in a1.toInt64 (0 : Int64) (9 : Int64) M) rfl rfl rfl wC_X9_in wS_X9_in wi_X9 wm_X9_89 hy_X9_in (by decide) (Nat.le_of_ble_eq_true rfl) dX9_width_17) (fun r2 => ?_)
    refine g_if_ne (pc := 20) (tgt := 26) C dX9_width_20 (by decide) ?_ ?_
    · refine g_aload_n (pc := 26) C dX9_width_26 rfl 0 rfl ?_
      refine gf_X9_7 (pc := 27) (u := 96) C kd_95 rfl dX9_width_27 ?_
      refine g_iload_n (pc := 30) C dX9_width_30 rfl 1 rfl ?_
      refine g_iald (pc := 31) C kd_96 dX9_width_31 ?_
      refine g_lt (fun v3 => ?_)
      refine g_istore_n (pc := 32) (lv' := [(3, .int v3), (0, .ref (xad X 95)), (1, .int a0), (2, .int a1)]) C dX9_width_32 rfl (by decide) rfl ?_
      refine g_aload_n (pc := 33) C dX9_width_33 rfl 1 rfl ?_
      refine gf_X9_7 (pc := 34) (u := 96) C kd_95 rfl dX9_width_34 ?_
      refine g_iload_n (pc := 37) C dX9_width_37 rfl 2 rfl ?_
      refine g_iload_n (pc := 38) C dX9_width_38 rfl 3 rfl ?_
      refine g_iast (pc := 39) C kd_96 dX9_width_39 ?_
      refine g_ltM (fun M4 => ?_)
      refine g_iload_n (pc := 40) C dX9_width_40 rfl 0 rfl ?_
      exact g_iret (pc := 41) C dX9_width_41 rfl rfl
    · refine g_ldc (pc := 23) C wk_X9_93 dX9_width_23 ?_
      exact g_iret (pc := 25) C dX9_width_25 rfl rfl
  · refine g_ldc (pc := 8) C wk_X9_188 dX9_width_8 ?_
    exact g_iret (pc := 10) C dX9_width_10 rfl rfl

/-! X9_without -/
set_option maxRecDepth 100000 in
set_option maxHeartbeats 4000000 in
theorem g_X9_without_b53 {X : gX} (C : gC X cX9_without RX9 4 (some .int) 7 162) (F : Nat) (a0 : Int32) (k23 : Int32 → Int32 → gM → Option (Int32 × gM)) (hk23 : ∀ (x2 : Int32) (x3 : Int32) (M : gM), G X (gQm X rvW rMW) 4 M [(0, .ref (xad X 95)), (1, .int a0), (2, .int x2), (3, .int x3)] [] 23 (k23 x2 x3 M)) (x2 : Int32) (x3 : Int32) (s0 : Int32) (s1 : Int32) (M : gM) : G X (gQm X rvW rMW) 4 M [(0, .ref (xad X 95)), (1, .int a0), (2, .int x2), (3, .int x3)] [.int s0, .int s1, .ref (xad X 95)] 53 (f_X9_without_b53 F a0 k23 x2 x3 s0 s1 M) := by
  unfold f_X9_without_b53
  refine g_callR (pc := 53) C (g_runS (stk := [.int s1, .ref (xad X 95)]) C (c_X9_one s0 M) rfl rfl rfl wC_X9_one wS_X9_one wi_X9 wm_X9_224 hy_X9_one (by decide) (Nat.le_of_ble_eq_true rfl) dX9_without_53) (fun r7 => ?_)
  refine g_iload_n (pc := 56) C dX9_without_56 rfl 3 rfl ?_
  refine g_ishl (pc := 57) C dX9_without_57 ?_
  refine g_ior (pc := 58) C dX9_without_58 ?_
  refine gp_X9_168 (pc := 59) C kd_95 dX9_without_59 ?_
  refine g_ltM (fun M8 => ?_)
  refine g_iinc (pc := 62) (j := 3) (lv' := [(3, .int (x3 + (1 : Int32))), (0, .ref (xad X 95)), (1, .int a0), (2, .int x2)]) C dX9_without_62 rfl (ii_1 _) (by decide) rfl ?_
  refine g_goto (pc := 65) (tgt := 23) C dX9_without_65 (by decide) ?_
  refine g_sub (lv' := [(0, .ref (xad X 95)), (1, .int a0), (2, .int x2), (3, .int (x3 + (1 : Int32)))]) [1, 2, 3, 0] rfl ?_
  exact hk23 x2 (x3 + (1 : Int32)) M8

set_option maxRecDepth 100000 in
set_option maxHeartbeats 4000000 in
theorem g_X9_without_h23_b {X : gX} (C : gC X cX9_without RX9 4 (some .int) 7 162) (F : Nat) (a0 : Int32) (k23 : Int32 → Int32 → gM → Option (Int32 × gM)) (hk23 : ∀ (x2 : Int32) (x3 : Int32) (M : gM), G X (gQm X rvW rMW) 4 M [(0, .ref (xad X 95)), (1, .int a0), (2, .int x2), (3, .int x3)] [] 23 (k23 x2 x3 M)) (x2 : Int32) (x3 : Int32) (M : gM) : G X (gQm X rvW rMW) 4 M [(0, .ref (xad X 95)), (1, .int a0), (2, .int x2), (3, .int x3)] [] 23 (f_X9_without_h23_b F a0 k23 x2 x3 M) := by
  unfold f_X9_without_h23_b
  refine g_iload_n (pc := 23) C dX9_without_23 rfl 3 rfl ?_
  refine g_aload_n (pc := 24) C dX9_without_24 rfl 0 rfl ?_
  refine gf_X9_47 (pc := 25) (u := 108) C kd_95 rfl dX9_without_25 ?_
  refine g_iconst (pc := 28) C dX9_without_28 ic_iconst_0 ?_
  refine g_iald (pc := 29) C kd_108 dX9_without_29 ?_
  refine g_icmp_ge (pc := 30) (tgt := 68) C dX9_without_30 (by decide) ?_ ?_
  · refine g_aload_n (pc := 68) C dX9_without_68 rfl 0 rfl ?_
    refine g_iconst (pc := 69) C dX9_without_69 ic_iconst_0 ?_
    refine g_callW (pc := 70) C (g_runV (stk := []) C (c_X9_leastIn F (0 : Int32) M) rfl rfl rfl kd_95 rfl wC_X9_leastIn wI_X9_leastIn wV_X9_leastIn wi_X9 wm_X9_234 hy_X9_leastIn (by decide) (Nat.le_of_ble_eq_true rfl) dX9_without_70) (fun r4 => ?_)
    refine g_lt (fun v5 => ?_)
    refine g_istore_n (pc := 73) (lv' := [(3, .int v5), (0, .ref (xad X 95)), (1, .int a0), (2, .int x2)]) C dX9_without_73 rfl (by decide) rfl ?_
    refine g_aload_n (pc := 74) C dX9_without_74 rfl 1 rfl ?_
    refine g_iconst (pc := 75) C dX9_without_75 ic_iconst_0 ?_
    refine gp_X9_168 (pc := 76) C kd_95 dX9_without_76 ?_
    refine g_ltM (fun M6 => ?_)
    refine g_iload_n (pc := 79) C dX9_without_79 rfl 3 rfl ?_
    refine g_if_lt (pc := 80) (tgt := 87) C dX9_without_80 (by decide) ?_ ?_
    · refine g_iconst (pc := 87) C dX9_without_87 ic_iconst_m1 ?_
      refine g_goto (pc := 88) (tgt := 94) C dX9_without_88 (by decide) ?_
      exact g_iret (pc := 94) C dX9_without_94 rfl rfl
    · refine g_iload_n (pc := 83) C dX9_without_83 rfl 0 rfl ?_
      refine g_if_ge (pc := 84) (tgt := 91) C dX9_without_84 (by decide) ?_ ?_
      · refine g_iload_n (pc := 91) C dX9_without_91 rfl 0 rfl ?_
        refine g_iload_n (pc := 92) C dX9_without_92 rfl 3 rfl ?_
        refine g_isub (pc := 93) C dX9_without_93 ?_
        exact g_iret (pc := 94) C dX9_without_94 rfl rfl
      · refine g_iconst (pc := 87) C dX9_without_87 ic_iconst_m1 ?_
        refine g_goto (pc := 88) (tgt := 94) C dX9_without_88 (by decide) ?_
        exact g_iret (pc := 94) C dX9_without_94 rfl rfl
  · refine g_aload_n (pc := 33) C dX9_without_33 rfl 0 rfl ?_
    refine g_dup (pc := 34) C dX9_without_34 rfl ?_
    refine gf_X9_168 (pc := 35) C kd_95 dX9_without_35 ?_
    refine g_aload_n (pc := 38) C dX9_without_38 rfl 0 rfl ?_
    refine gf_X9_20 (pc := 39) (u := 99) C kd_95 rfl dX9_without_39 ?_
    refine g_iload_n (pc := 42) C dX9_without_42 rfl 3 rfl ?_
    refine g_iald (pc := 43) C kd_99 dX9_without_43 ?_
    refine g_iload_n (pc := 44) C dX9_without_44 rfl 1 rfl ?_
    refine g_icmp_ne (pc := 45) (tgt := 52) C dX9_without_45 (by decide) ?_ ?_
    · refine g_iconst (pc := 52) C dX9_without_52 ic_iconst_0 ?_
      exact g_X9_without_b53 C F a0 k23 hk23 x2 x3 (0 : Int32) (M 95 22) M
    · refine g_iconst (pc := 48) C dX9_without_48 ic_iconst_1 ?_
      refine g_goto (pc := 49) (tgt := 53) C dX9_without_49 (by decide) ?_
      exact g_X9_without_b53 C F a0 k23 hk23 x2 x3 (1 : Int32) (M 95 22) M

theorem g_X9_without_h23 {X : gX} (C : gC X cX9_without RX9 4 (some .int) 7 162) (F : Nat) (a0 : Int32) : ∀ (n : Nat) (x2 : Int32) (x3 : Int32) (M : gM), G X (gQm X rvW rMW) 4 M [(0, .ref (xad X 95)), (1, .int a0), (2, .int x2), (3, .int x3)] [] 23 (f_X9_without_h23 F a0 n x2 x3 M) := by
  intro n
  induction n with
  | zero =>
    intro x2 x3 M r hr
    have hr2 : (none : Option (Int32 × gM)) = some r := hr
    cases hr2
  | succ n ih =>
    intro x2 x3 M
    exact g_X9_without_h23_b C F a0 _ ih x2 x3 M
set_option maxRecDepth 100000 in
set_option maxHeartbeats 4000000 in
theorem c_X9_without (F : Nat) (a0 : Int32)  (M : gM) : gCt yX9_without cX9_without 4 (some .int) 7 162 (fun ad K V => [.ref (ad 95), .int a0]) rvW rMW M (f_X9_without F a0 M) := by
  refine g_met (y := yX9_without) (by decide +kernel) (fun _ _ _ => Nat.le_of_ble_eq_true rfl) (fun X C => ?_)
  show G X (gQm X rvW rMW) 4 M [(0, .ref (xad X 95)), (1, .int a0)] [] 0 (f_X9_without F a0 M)
  unfold f_X9_without
  refine g_iload_n (pc := 0) C dX9_without_0 rfl 1 rfl ?_
  refine g_i2l (pc := 1) C dX9_without_1 ?_
  refine g_lconst (pc := 2) (v := 0) C dX9_without_2 rfl ?_
  refine g_ldc2 (pc := 3) C wl_X9_243 dX9_without_3 ?_
  refine g_callR (pc := 6) C (g_runS (stk := []) C (c_X9_in a0.toInt64 (0 : Int64) (3 : Int64) M) rfl rfl rfl wC_X9_in wS_X9_in wi_X9 wm_X9_89 hy_X9_in (by decide) (Nat.le_of_ble_eq_true rfl) dX9_without_6) (fun r1 => ?_)
  refine g_if_ne (pc := 9) (tgt := 15) C dX9_without_9 (by decide) ?_ ?_
  · refine g_aload_n (pc := 15) C dX9_without_15 rfl 0 rfl ?_
    refine g_iconst (pc := 16) C dX9_without_16 ic_iconst_0 ?_
    refine g_callW (pc := 17) C (g_runV (stk := []) C (c_X9_leastIn F (0 : Int32) M) rfl rfl rfl kd_95 rfl wC_X9_leastIn wI_X9_leastIn wV_X9_leastIn wi_X9 wm_X9_234 hy_X9_leastIn (by decide) (Nat.le_of_ble_eq_true rfl) dX9_without_17) (fun r2 => ?_)
    refine g_lt (fun v3 => ?_)
    refine g_istore_n (pc := 20) (lv' := [(2, .int v3), (0, .ref (xad X 95)), (1, .int a0)]) C dX9_without_20 rfl (by decide) rfl ?_
    refine g_iconst (pc := 21) C dX9_without_21 ic_iconst_0 ?_
    refine g_istore_n (pc := 22) (lv' := [(3, .int (0 : Int32)), (2, .int v3), (0, .ref (xad X 95)), (1, .int a0)]) C dX9_without_22 rfl (by decide) rfl ?_
    refine g_sub (lv' := [(0, .ref (xad X 95)), (1, .int a0), (2, .int v3), (3, .int (0 : Int32))]) [2, 3, 1, 0] rfl ?_
    exact g_X9_without_h23 C F a0 F v3 (0 : Int32) r2.2
  · refine g_ldc (pc := 12) C wk_X9_93 dX9_without_12 ?_
    exact g_iret (pc := 14) C dX9_without_14 rfl rfl

