/-! X9_judge -/
set_option maxRecDepth 100000 in
set_option maxHeartbeats 4000000 in
theorem g_X9_judge_b108 {X : gX} (C : gC X cX9_judge RX9 6 (some .int) 1 25) (F : Nat) (M : gM) (k2 : Int32 → Option Int32) (k55 : Int32 → Int32 → Int32 → Option Int32) (hk2 : ∀ (x1 : Int32), G X (gQm X rvR (rMR M)) 6 M [(0, .ref (xad X 95)), (1, .int x1)] [] 2 (k2 x1)) (hk55 : ∀ (x1 : Int32) (x2 : Int32) (x3 : Int32), G X (gQm X rvR (rMR M)) 6 M [(0, .ref (xad X 95)), (1, .int x1), (2, .int x2), (3, .int x3)] [] 55 (k55 x1 x2 x3)) (x1 : Int32) (x2 : Int32) (x3 : Int32) (s0 : Int32) : G X (gQm X rvR (rMR M)) 6 M [(0, .ref (xad X 95)), (1, .int x1), (2, .int x2), (3, .int x3)] [.int s0] 108 (f_X9_judge_b108 F M k2 k55 x1 x2 x3 s0) := by
  unfold f_X9_judge_b108
  refine g_istore (pc := 108) (lv' := [(5, .int s0), (0, .ref (xad X 95)), (1, .int x1), (2, .int x2), (3, .int x3)]) C dX9_judge_108 (by decide) rfl ?_
  refine g_iload_n (pc := 110) C dX9_judge_110 rfl 3 rfl ?_
  refine g_if_ne (pc := 111) (tgt := 134) C dX9_judge_111 (by decide) ?_ ?_
  · refine g_iconst (pc := 134) C dX9_judge_134 ic_iconst_1 ?_
    refine g_goto (pc := 135) (tgt := 139) C dX9_judge_135 (by decide) ?_
    refine g_istore_n (pc := 139) (lv' := [(2, .int (1 : Int32)), (5, .int s0), (0, .ref (xad X 95)), (1, .int x1), (3, .int x3)]) C dX9_judge_139 rfl (by decide) rfl ?_
    refine g_iinc (pc := 140) (j := 4) (lv' := [(3, .int (x3 + (1 : Int32))), (2, .int (1 : Int32)), (5, .int s0), (0, .ref (xad X 95)), (1, .int x1)]) C dX9_judge_140 rfl (ii_1 _) (by decide) rfl ?_
    refine g_goto (pc := 143) (tgt := 55) C dX9_judge_143 (by decide) ?_
    refine g_sub (lv' := [(0, .ref (xad X 95)), (1, .int x1), (2, .int (1 : Int32)), (3, .int (x3 + (1 : Int32)))]) [3, 4, 1, 0] rfl ?_
    exact hk55 x1 (1 : Int32) (x3 + (1 : Int32))
  · refine g_aload_n (pc := 114) C dX9_judge_114 rfl 1 rfl ?_
    refine gf_X9_84 (pc := 115) (u := 119) C kd_95 rfl dX9_judge_115 ?_
    refine g_iload_n (pc := 118) C dX9_judge_118 rfl 4 rfl ?_
    refine g_iald (pc := 119) C kd_119 dX9_judge_119 ?_
    refine g_aload_n (pc := 120) C dX9_judge_120 rfl 1 rfl ?_
    refine gf_X9_84 (pc := 121) (u := 119) C kd_95 rfl dX9_judge_121 ?_
    refine g_iload_n (pc := 124) C dX9_judge_124 rfl 2 rfl ?_
    refine g_iald (pc := 125) C kd_119 dX9_judge_125 ?_
    refine g_icmp_ne (pc := 126) (tgt := 138) C dX9_judge_126 (by decide) ?_ ?_
    · refine g_iconst (pc := 138) C dX9_judge_138 ic_iconst_0 ?_
      refine g_istore_n (pc := 139) (lv' := [(2, .int (0 : Int32)), (5, .int s0), (0, .ref (xad X 95)), (1, .int x1), (3, .int x3)]) C dX9_judge_139 rfl (by decide) rfl ?_
      refine g_iinc (pc := 140) (j := 4) (lv' := [(3, .int (x3 + (1 : Int32))), (2, .int (0 : Int32)), (5, .int s0), (0, .ref (xad X 95)), (1, .int x1)]) C dX9_judge_140 rfl (ii_1 _) (by decide) rfl ?_
      refine g_goto (pc := 143) (tgt := 55) C dX9_judge_143 (by decide) ?_
      refine g_sub (lv' := [(0, .ref (xad X 95)), (1, .int x1), (2, .int (0 : Int32)), (3, .int (x3 + (1 : Int32)))]) [3, 4, 1, 0] rfl ?_
      exact hk55 x1 (0 : Int32) (x3 + (1 : Int32))
    · refine g_iload (pc := 129) C dX9_judge_129 0 rfl ?_
      refine g_if_eq (pc := 131) (tgt := 138) C dX9_judge_131 (by decide) ?_ ?_
      · refine g_iconst (pc := 138) C dX9_judge_138 ic_iconst_0 ?_
        refine g_istore_n (pc := 139) (lv' := [(2, .int (0 : Int32)), (5, .int s0), (0, .ref (xad X 95)), (1, .int x1), (3, .int x3)]) C dX9_judge_139 rfl (by decide) rfl ?_
        refine g_iinc (pc := 140) (j := 4) (lv' := [(3, .int (x3 + (1 : Int32))), (2, .int (0 : Int32)), (5, .int s0), (0, .ref (xad X 95)), (1, .int x1)]) C dX9_judge_140 rfl (ii_1 _) (by decide) rfl ?_
        refine g_goto (pc := 143) (tgt := 55) C dX9_judge_143 (by decide) ?_
        refine g_sub (lv' := [(0, .ref (xad X 95)), (1, .int x1), (2, .int (0 : Int32)), (3, .int (x3 + (1 : Int32)))]) [3, 4, 1, 0] rfl ?_
        exact hk55 x1 (0 : Int32) (x3 + (1 : Int32))
      · refine g_iconst (pc := 134) C dX9_judge_134 ic_iconst_1 ?_
        refine g_goto (pc := 135) (tgt := 139) C dX9_judge_135 (by decide) ?_
        refine g_istore_n (pc := 139) (lv' := [(2, .int (1 : Int32)), (5, .int s0), (0, .ref (xad X 95)), (1, .int x1), (3, .int x3)]) C dX9_judge_139 rfl (by decide) rfl ?_
        refine g_iinc (pc := 140) (j := 4) (lv' := [(3, .int (x3 + (1 : Int32))), (2, .int (1 : Int32)), (5, .int s0), (0, .ref (xad X 95)), (1, .int x1)]) C dX9_judge_140 rfl (ii_1 _) (by decide) rfl ?_
        refine g_goto (pc := 143) (tgt := 55) C dX9_judge_143 (by decide) ?_
        refine g_sub (lv' := [(0, .ref (xad X 95)), (1, .int x1), (2, .int (1 : Int32)), (3, .int (x3 + (1 : Int32)))]) [3, 4, 1, 0] rfl ?_
        exact hk55 x1 (1 : Int32) (x3 + (1 : Int32))

set_option maxRecDepth 100000 in
set_option maxHeartbeats 4000000 in
theorem g_X9_judge_b103 {X : gX} (C : gC X cX9_judge RX9 6 (some .int) 1 25) (F : Nat) (M : gM) (k2 : Int32 → Option Int32) (k55 : Int32 → Int32 → Int32 → Option Int32) (hk2 : ∀ (x1 : Int32), G X (gQm X rvR (rMR M)) 6 M [(0, .ref (xad X 95)), (1, .int x1)] [] 2 (k2 x1)) (hk55 : ∀ (x1 : Int32) (x2 : Int32) (x3 : Int32), G X (gQm X rvR (rMR M)) 6 M [(0, .ref (xad X 95)), (1, .int x1), (2, .int x2), (3, .int x3)] [] 55 (k55 x1 x2 x3)) (x1 : Int32) (x2 : Int32) (x3 : Int32) : G X (gQm X rvR (rMR M)) 6 M [(0, .ref (xad X 95)), (1, .int x1), (2, .int x2), (3, .int x3)] [] 103 (f_X9_judge_b103 F M k2 k55 x1 x2 x3) := by
  unfold f_X9_judge_b103
  refine g_iconst (pc := 103) C dX9_judge_103 ic_iconst_1 ?_
  refine g_goto (pc := 104) (tgt := 108) C dX9_judge_104 (by decide) ?_
  exact g_X9_judge_b108 C F M k2 k55 hk2 hk55 x1 x2 x3 (1 : Int32)

set_option maxRecDepth 100000 in
set_option maxHeartbeats 4000000 in
theorem g_X9_judge_b107 {X : gX} (C : gC X cX9_judge RX9 6 (some .int) 1 25) (F : Nat) (M : gM) (k2 : Int32 → Option Int32) (k55 : Int32 → Int32 → Int32 → Option Int32) (hk2 : ∀ (x1 : Int32), G X (gQm X rvR (rMR M)) 6 M [(0, .ref (xad X 95)), (1, .int x1)] [] 2 (k2 x1)) (hk55 : ∀ (x1 : Int32) (x2 : Int32) (x3 : Int32), G X (gQm X rvR (rMR M)) 6 M [(0, .ref (xad X 95)), (1, .int x1), (2, .int x2), (3, .int x3)] [] 55 (k55 x1 x2 x3)) (x1 : Int32) (x2 : Int32) (x3 : Int32) : G X (gQm X rvR (rMR M)) 6 M [(0, .ref (xad X 95)), (1, .int x1), (2, .int x2), (3, .int x3)] [] 107 (f_X9_judge_b107 F M k2 k55 x1 x2 x3) := by
  unfold f_X9_judge_b107
  refine g_iconst (pc := 107) C dX9_judge_107 ic_iconst_0 ?_
  exact g_X9_judge_b108 C F M k2 k55 hk2 hk55 x1 x2 x3 (0 : Int32)

set_option maxRecDepth 100000 in
set_option maxHeartbeats 4000000 in
theorem g_X9_judge_h55_b {X : gX} (C : gC X cX9_judge RX9 6 (some .int) 1 25) (F : Nat) (M : gM) (k2 : Int32 → Option Int32) (hk2 : ∀ (x1 : Int32), G X (gQm X rvR (rMR M)) 6 M [(0, .ref (xad X 95)), (1, .int x1)] [] 2 (k2 x1)) (k55 : Int32 → Int32 → Int32 → Option Int32) (hk55 : ∀ (x1 : Int32) (x2 : Int32) (x3 : Int32), G X (gQm X rvR (rMR M)) 6 M [(0, .ref (xad X 95)), (1, .int x1), (2, .int x2), (3, .int x3)] [] 55 (k55 x1 x2 x3)) (x1 : Int32) (x2 : Int32) (x3 : Int32) : G X (gQm X rvR (rMR M)) 6 M [(0, .ref (xad X 95)), (1, .int x1), (2, .int x2), (3, .int x3)] [] 55 (f_X9_judge_h55_b F M k2 k55 x1 x2 x3) := by
  unfold f_X9_judge_h55_b
  refine g_iload_n (pc := 55) C dX9_judge_55 rfl 3 rfl ?_
  refine g_iload_n (pc := 56) C dX9_judge_56 rfl 1 rfl ?_
  refine g_icmp_ge (pc := 57) (tgt := 146) C dX9_judge_57 (by decide) ?_ ?_
  · refine g_iload_n (pc := 146) C dX9_judge_146 rfl 2 rfl ?_
    refine g_if_eq (pc := 147) (tgt := 152) C dX9_judge_147 (by decide) ?_ ?_
    · refine g_iinc (pc := 152) (j := 1) (lv' := [(1, .int (x1 + (1 : Int32))), (0, .ref (xad X 95)), (2, .int x2), (3, .int x3)]) C dX9_judge_152 rfl (ii_1 _) (by decide) rfl ?_
      refine g_goto (pc := 155) (tgt := 2) C dX9_judge_155 (by decide) ?_
      refine g_sub (lv' := [(0, .ref (xad X 95)), (1, .int (x1 + (1 : Int32)))]) [1, 0] rfl ?_
      exact hk2 (x1 + (1 : Int32))
    · refine g_iload_n (pc := 150) C dX9_judge_150 rfl 1 rfl ?_
      exact g_iret (pc := 151) C dX9_judge_151 rfl rfl
  · refine g_aload_n (pc := 60) C dX9_judge_60 rfl 0 rfl ?_
    refine gf_X9_81 (pc := 61) (u := 118) C kd_95 rfl dX9_judge_61 ?_
    refine g_iload_n (pc := 64) C dX9_judge_64 rfl 1 rfl ?_
    refine g_iald (pc := 65) C kd_118 dX9_judge_65 ?_
    refine g_aload_n (pc := 66) C dX9_judge_66 rfl 0 rfl ?_
    refine gf_X9_81 (pc := 67) (u := 118) C kd_95 rfl dX9_judge_67 ?_
    refine g_iload_n (pc := 70) C dX9_judge_70 rfl 3 rfl ?_
    refine g_iald (pc := 71) C kd_118 dX9_judge_71 ?_
    refine g_isub (pc := 72) C dX9_judge_72 ?_
    refine g_lt (fun v2 => ?_)
    refine g_istore (pc := 73) (lv' := [(4, .int v2), (0, .ref (xad X 95)), (1, .int x1), (2, .int x2), (3, .int x3)]) C dX9_judge_73 (by decide) rfl ?_
    refine g_iload (pc := 75) C dX9_judge_75 0 rfl ?_
    refine g_if_eq (pc := 77) (tgt := 103) C dX9_judge_77 (by decide) ?_ ?_
    · refine g_sub (lv' := [(0, .ref (xad X 95)), (1, .int x1), (2, .int x2), (3, .int x3)]) [1, 2, 3, 4] rfl ?_
      exact g_X9_judge_b103 C F M k2 k55 hk2 hk55 x1 x2 x3
    · refine g_aload_n (pc := 80) C dX9_judge_80 rfl 1 rfl ?_
      refine gf_X9_7 (pc := 81) (u := 96) C kd_95 rfl dX9_judge_81 ?_
      refine g_bipush (pc := 84) C dX9_judge_84 ic_bipush_31 ?_
      refine g_iald (pc := 86) C kd_96 dX9_judge_86 ?_
      refine g_iconst (pc := 87) C dX9_judge_87 ic_iconst_1 ?_
      refine g_icmp_ne (pc := 88) (tgt := 107) C dX9_judge_88 (by decide) ?_ ?_
      · refine g_sub (lv' := [(0, .ref (xad X 95)), (1, .int x1), (2, .int x2), (3, .int x3)]) [1, 2, 3, 4] rfl ?_
        exact g_X9_judge_b107 C F M k2 k55 hk2 hk55 x1 x2 x3
      · refine g_iload (pc := 91) C dX9_judge_91 0 rfl ?_
        refine g_iconst (pc := 93) C dX9_judge_93 ic_iconst_1 ?_
        refine g_icmp_eq (pc := 94) (tgt := 103) C dX9_judge_94 (by decide) ?_ ?_
        · refine g_sub (lv' := [(0, .ref (xad X 95)), (1, .int x1), (2, .int x2), (3, .int x3)]) [1, 2, 3, 4] rfl ?_
          exact g_X9_judge_b103 C F M k2 k55 hk2 hk55 x1 x2 x3
        · refine g_iload (pc := 97) C dX9_judge_97 0 rfl ?_
          refine g_iconst (pc := 99) C dX9_judge_99 ic_iconst_m1 ?_
          refine g_icmp_ne (pc := 100) (tgt := 107) C dX9_judge_100 (by decide) ?_ ?_
          · refine g_sub (lv' := [(0, .ref (xad X 95)), (1, .int x1), (2, .int x2), (3, .int x3)]) [1, 2, 3, 4] rfl ?_
            exact g_X9_judge_b107 C F M k2 k55 hk2 hk55 x1 x2 x3
          · refine g_sub (lv' := [(0, .ref (xad X 95)), (1, .int x1), (2, .int x2), (3, .int x3)]) [1, 2, 3, 4] rfl ?_
            exact g_X9_judge_b103 C F M k2 k55 hk2 hk55 x1 x2 x3

theorem g_X9_judge_h55 {X : gX} (C : gC X cX9_judge RX9 6 (some .int) 1 25) (F : Nat) (M : gM) (k2 : Int32 → Option Int32) (hk2 : ∀ (x1 : Int32), G X (gQm X rvR (rMR M)) 6 M [(0, .ref (xad X 95)), (1, .int x1)] [] 2 (k2 x1)) : ∀ (n : Nat) (x1 : Int32) (x2 : Int32) (x3 : Int32), G X (gQm X rvR (rMR M)) 6 M [(0, .ref (xad X 95)), (1, .int x1), (2, .int x2), (3, .int x3)] [] 55 (f_X9_judge_h55 F M k2 n x1 x2 x3) := by
  intro n
  induction n with
  | zero =>
    intro x1 x2 x3 r hr
    have hr2 : (none : Option Int32) = some r := hr
    cases hr2
  | succ n ih =>
    intro x1 x2 x3
    exact g_X9_judge_h55_b C F M k2 hk2 _ ih x1 x2 x3
set_option maxRecDepth 100000 in
set_option maxHeartbeats 4000000 in
theorem g_X9_judge_h2_b {X : gX} (C : gC X cX9_judge RX9 6 (some .int) 1 25) (F : Nat) (M : gM) (k2 : Int32 → Option Int32) (hk2 : ∀ (x1 : Int32), G X (gQm X rvR (rMR M)) 6 M [(0, .ref (xad X 95)), (1, .int x1)] [] 2 (k2 x1)) (x1 : Int32) : G X (gQm X rvR (rMR M)) 6 M [(0, .ref (xad X 95)), (1, .int x1)] [] 2 (f_X9_judge_h2_b F M k2 x1) := by
  unfold f_X9_judge_h2_b
  refine g_iload_n (pc := 2) C dX9_judge_2 rfl 1 rfl ?_
  refine g_aload_n (pc := 3) C dX9_judge_3 rfl 0 rfl ?_
  refine gf_X9_159 (pc := 4) C kd_95 dX9_judge_4 ?_
  refine g_icmp_ge (pc := 7) (tgt := 158) C dX9_judge_7 (by decide) ?_ ?_
  · refine g_iconst (pc := 158) C dX9_judge_158 ic_iconst_m1 ?_
    exact g_iret (pc := 159) C dX9_judge_159 rfl rfl
  · refine g_aload_n (pc := 10) C dX9_judge_10 rfl 0 rfl ?_
    refine gf_X9_81 (pc := 11) (u := 118) C kd_95 rfl dX9_judge_11 ?_
    refine g_iload_n (pc := 14) C dX9_judge_14 rfl 1 rfl ?_
    refine g_iald (pc := 15) C kd_118 dX9_judge_15 ?_
    refine g_i2l (pc := 16) C dX9_judge_16 ?_
    refine g_aload_n (pc := 17) C dX9_judge_17 rfl 0 rfl ?_
    refine gf_X9_29 (pc := 18) (u := 102) C kd_95 rfl dX9_judge_18 ?_
    refine g_aload_n (pc := 21) C dX9_judge_21 rfl 0 rfl ?_
    refine gf_X9_84 (pc := 22) (u := 119) C kd_95 rfl dX9_judge_22 ?_
    refine g_iload_n (pc := 25) C dX9_judge_25 rfl 1 rfl ?_
    refine g_iald (pc := 26) C kd_119 dX9_judge_26 ?_
    refine g_iald (pc := 27) C kd_102 dX9_judge_27 ?_
    refine g_i2l (pc := 28) C dX9_judge_28 ?_
    refine g_aload_n (pc := 29) C dX9_judge_29 rfl 0 rfl ?_
    refine gf_X9_32 (pc := 30) (u := 103) C kd_95 rfl dX9_judge_30 ?_
    refine g_aload_n (pc := 33) C dX9_judge_33 rfl 0 rfl ?_
    refine gf_X9_84 (pc := 34) (u := 119) C kd_95 rfl dX9_judge_34 ?_
    refine g_iload_n (pc := 37) C dX9_judge_37 rfl 1 rfl ?_
    refine g_iald (pc := 38) C kd_119 dX9_judge_38 ?_
    refine g_iald (pc := 39) C kd_103 dX9_judge_39 ?_
    refine g_i2l (pc := 40) C dX9_judge_40 ?_
    refine g_callR (pc := 41) C (g_runS (stk := []) C (c_X9_in ((M 118 x1.toNatClampNeg).toInt64) ((M 102 (M 119 x1.toNatClampNeg).toNatClampNeg).toInt64) ((M 103 (M 119 x1.toNatClampNeg).toNatClampNeg).toInt64) M) rfl rfl rfl wC_X9_in wS_X9_in wi_X9 wm_X9_89 hy_X9_in (by decide) (Nat.le_of_ble_eq_true rfl) dX9_judge_41) (fun r1 => ?_)
    refine g_if_ne (pc := 44) (tgt := 51) C dX9_judge_44 (by decide) ?_ ?_
    · refine g_iconst (pc := 51) C dX9_judge_51 ic_iconst_0 ?_
      refine g_istore_n (pc := 52) (lv' := [(2, .int (0 : Int32)), (0, .ref (xad X 95)), (1, .int x1)]) C dX9_judge_52 rfl (by decide) rfl ?_
      refine g_iconst (pc := 53) C dX9_judge_53 ic_iconst_0 ?_
      refine g_istore_n (pc := 54) (lv' := [(3, .int (0 : Int32)), (2, .int (0 : Int32)), (0, .ref (xad X 95)), (1, .int x1)]) C dX9_judge_54 rfl (by decide) rfl ?_
      refine g_sub (lv' := [(0, .ref (xad X 95)), (1, .int x1), (2, .int (0 : Int32)), (3, .int (0 : Int32))]) [2, 3, 1, 0] rfl ?_
      exact g_X9_judge_h55 C F M k2 hk2 F x1 (0 : Int32) (0 : Int32)
    · refine g_iconst (pc := 47) C dX9_judge_47 ic_iconst_1 ?_
      refine g_goto (pc := 48) (tgt := 52) C dX9_judge_48 (by decide) ?_
      refine g_istore_n (pc := 52) (lv' := [(2, .int (1 : Int32)), (0, .ref (xad X 95)), (1, .int x1)]) C dX9_judge_52 rfl (by decide) rfl ?_
      refine g_iconst (pc := 53) C dX9_judge_53 ic_iconst_0 ?_
      refine g_istore_n (pc := 54) (lv' := [(3, .int (0 : Int32)), (2, .int (1 : Int32)), (0, .ref (xad X 95)), (1, .int x1)]) C dX9_judge_54 rfl (by decide) rfl ?_
      refine g_sub (lv' := [(0, .ref (xad X 95)), (1, .int x1), (2, .int (1 : Int32)), (3, .int (0 : Int32))]) [2, 3, 1, 0] rfl ?_
      exact g_X9_judge_h55 C F M k2 hk2 F x1 (1 : Int32) (0 : Int32)

theorem g_X9_judge_h2 {X : gX} (C : gC X cX9_judge RX9 6 (some .int) 1 25) (F : Nat) (M : gM) : ∀ (n : Nat) (x1 : Int32), G X (gQm X rvR (rMR M)) 6 M [(0, .ref (xad X 95)), (1, .int x1)] [] 2 (f_X9_judge_h2 F M n x1) := by
  intro n
  induction n with
  | zero =>
    intro x1 r hr
    have hr2 : (none : Option Int32) = some r := hr
    cases hr2
  | succ n ih =>
    intro x1
    exact g_X9_judge_h2_b C F M _ ih x1
set_option maxRecDepth 100000 in
set_option maxHeartbeats 4000000 in
theorem c_X9_judge (F : Nat)  (M : gM) : gCt yX9_judge cX9_judge 6 (some .int) 1 25 (fun ad K V => [.ref (ad 95)]) rvR (rMR M) M (f_X9_judge F M) := by
  refine g_met (y := yX9_judge) (by decide +kernel) (fun _ _ _ => Nat.le_of_ble_eq_true rfl) (fun X C => ?_)
  show G X (gQm X rvR (rMR M)) 6 M [(0, .ref (xad X 95))] [] 0 (f_X9_judge F M)
  unfold f_X9_judge
  refine g_iconst (pc := 0) C dX9_judge_0 ic_iconst_0 ?_
  refine g_istore_n (pc := 1) (lv' := [(1, .int (0 : Int32)), (0, .ref (xad X 95))]) C dX9_judge_1 rfl (by decide) rfl ?_
  refine g_sub (lv' := [(0, .ref (xad X 95)), (1, .int (0 : Int32))]) [1, 0] rfl ?_
  exact g_X9_judge_h2 C F M F (0 : Int32)

/-! X9_keep -/
set_option maxRecDepth 100000 in
set_option maxHeartbeats 4000000 in
theorem c_X9_keep (F : Nat) (a0 : Int32)  (M : gM) : gCt yX9_keep cX9_keep 2 (some .int) 1 25 (fun ad K V => [.ref (ad 95), .int a0]) rvW rMW M (f_X9_keep F a0 M) := by
  refine g_met (y := yX9_keep) (by decide +kernel) (fun _ _ _ => Nat.le_of_ble_eq_true rfl) (fun X C => ?_)
  show G X (gQm X rvW rMW) 2 M [(0, .ref (xad X 95)), (1, .int a0)] [] 0 (f_X9_keep F a0 M)
  unfold f_X9_keep
  refine g_iload_n (pc := 0) C dX9_keep_0 rfl 1 rfl ?_
  refine g_i2l (pc := 1) C dX9_keep_1 ?_
  refine g_lconst (pc := 2) (v := 0) C dX9_keep_2 rfl ?_
  refine g_lconst (pc := 3) (v := 1) C dX9_keep_3 rfl ?_
  refine g_callR (pc := 4) C (g_runS (stk := []) C (c_X9_in a0.toInt64 (0 : Int64) (1 : Int64) M) rfl rfl rfl wC_X9_in wS_X9_in wi_X9 wm_X9_89 hy_X9_in (by decide) (Nat.le_of_ble_eq_true rfl) dX9_keep_4) (fun r1 => ?_)
  refine g_if_ne (pc := 7) (tgt := 13) C dX9_keep_7 (by decide) ?_ ?_
  · refine g_aload_n (pc := 13) C dX9_keep_13 rfl 0 rfl ?_
    refine g_iconst (pc := 14) C dX9_keep_14 ic_iconst_0 ?_
    refine g_bipush (pc := 15) C dX9_keep_15 ic_bipush_80 ?_
    refine g_bipush (pc := 17) C dX9_keep_17 ic_bipush_40 ?_
    refine g_iload_n (pc := 19) C dX9_keep_19 rfl 1 rfl ?_
    refine g_imul (pc := 20) C dX9_keep_20 ?_
    refine g_iadd (pc := 21) C dX9_keep_21 ?_
    refine g_callV (pc := 22) C (g_runV (stk := []) C (c_X9_copy F (0 : Int32) ((80 : Int32) + ((40 : Int32) * a0)) M) rfl rfl rfl kd_95 rfl wC_X9_copy wI_X9_copy wV_X9_copy wi_X9 wm_X9_248 hy_X9_copy (by decide) (Nat.le_of_ble_eq_true rfl) dX9_keep_22) (fun r2 => ?_)
    refine g_aload_n (pc := 25) C dX9_keep_25 rfl 0 rfl ?_
    refine gf_X9_13 (pc := 26) (u := 97) C kd_95 rfl dX9_keep_26 ?_
    refine g_iload_n (pc := 29) C dX9_keep_29 rfl 1 rfl ?_
    refine g_iconst (pc := 30) C dX9_keep_30 ic_iconst_1 ?_
    refine g_zast (pc := 31) C kd_97 dX9_keep_31 ?_
    refine g_ltM (fun M3 => ?_)
    refine g_iconst (pc := 32) C dX9_keep_32 ic_iconst_1 ?_
    exact g_iret (pc := 33) C dX9_keep_33 rfl rfl
  · refine g_ldc (pc := 10) C wk_X9_188 dX9_keep_10 ?_
    exact g_iret (pc := 12) C dX9_keep_12 rfl rfl

/-! X9_law -/
set_option maxRecDepth 100000 in
set_option maxHeartbeats 4000000 in
theorem c_X9_law (a0 : Int32)  (M : gM) : gCt yX9_law cX9_law 3 (some .int) 1 25 (fun ad K V => [.ref (ad 95), .int a0]) rvW rMW M (f_X9_law a0 M) := by
  refine g_met (y := yX9_law) (by decide +kernel) (fun _ _ _ => Nat.le_of_ble_eq_true rfl) (fun X C => ?_)
  show G X (gQm X rvW rMW) 3 M [(0, .ref (xad X 95)), (1, .int a0)] [] 0 (f_X9_law a0 M)
  unfold f_X9_law
  refine g_iload_n (pc := 0) C dX9_law_0 rfl 1 rfl ?_
  refine g_i2l (pc := 1) C dX9_law_1 ?_
  refine g_lconst (pc := 2) (v := 0) C dX9_law_2 rfl ?_
  refine g_lconst (pc := 3) (v := 1) C dX9_law_3 rfl ?_
  refine g_callR (pc := 4) C (g_runS (stk := []) C (c_X9_in a0.toInt64 (0 : Int64) (1 : Int64) M) rfl rfl rfl wC_X9_in wS_X9_in wi_X9 wm_X9_89 hy_X9_in (by decide) (Nat.le_of_ble_eq_true rfl) dX9_law_4) (fun r1 => ?_)
  refine g_if_ne (pc := 7) (tgt := 13) C dX9_law_7 (by decide) ?_ ?_
  · refine g_aload_n (pc := 13) C dX9_law_13 rfl 0 rfl ?_
    refine gf_X9_7 (pc := 14) (u := 96) C kd_95 rfl dX9_law_14 ?_
    refine g_bipush (pc := 17) C dX9_law_17 ic_bipush_31 ?_
    refine g_iald (pc := 19) C kd_96 dX9_law_19 ?_
    refine g_lt (fun v2 => ?_)
    refine g_istore_n (pc := 20) (lv' := [(2, .int v2), (0, .ref (xad X 95)), (1, .int a0)]) C dX9_law_20 rfl (by decide) rfl ?_
    refine g_aload_n (pc := 21) C dX9_law_21 rfl 1 rfl ?_
    refine gf_X9_7 (pc := 22) (u := 96) C kd_95 rfl dX9_law_22 ?_
    refine g_bipush (pc := 25) C dX9_law_25 ic_bipush_31 ?_
    refine g_iload_n (pc := 27) C dX9_law_27 rfl 2 rfl ?_
    refine g_iast (pc := 28) C kd_96 dX9_law_28 ?_
    refine g_ltM (fun M3 => ?_)
    refine g_iload_n (pc := 29) C dX9_law_29 rfl 0 rfl ?_
    exact g_iret (pc := 30) C dX9_law_30 rfl rfl
  · refine g_ldc (pc := 10) C wk_X9_93 dX9_law_10 ?_
    exact g_iret (pc := 12) C dX9_law_12 rfl rfl

/-! X9_look -/
set_option maxRecDepth 100000 in
set_option maxHeartbeats 4000000 in
theorem g_X9_look_b58 {X : gX} (C : gC X cX9_look RX9 3 (some .int) 2 45) (F : Nat) (a0 : Int32) (a1 : Int32) (M : gM) (s0 : Int32) : G X (gQm X rvR (rMR M)) 3 M [(0, .ref (xad X 95)), (1, .int a0)] [.int s0, .ref (xad X 95)] 58 (f_X9_look_b58 F a0 a1 M s0) := by
  unfold f_X9_look_b58
  refine g_aload_n (pc := 58) C dX9_look_58 rfl 0 rfl ?_
  refine gf_X9_57 (pc := 59) (u := 110) C kd_95 rfl dX9_look_59 ?_
  refine g_iload_n (pc := 62) C dX9_look_62 rfl 1 rfl ?_
  refine g_iald (pc := 63) C kd_110 dX9_look_63 ?_
  refine g_callR (pc := 64) C (g_runV (stk := []) C (c_X9_sumOf F s0 (M 110 a0.toNatClampNeg) M) rfl rfl rfl kd_95 rfl wC_X9_sumOf wI_X9_sumOf wV_X9_sumOf wi_X9 wm_X9_171 hy_X9_sumOf (by decide) (Nat.le_of_ble_eq_true rfl) dX9_look_64) (fun r3 => ?_)
  exact g_iret (pc := 67) C dX9_look_67 rfl rfl

set_option maxRecDepth 100000 in
set_option maxHeartbeats 4000000 in
theorem c_X9_look (F : Nat) (a0 : Int32) (a1 : Int32)  (M : gM) : gCt yX9_look cX9_look 3 (some .int) 2 45 (fun ad K V => [.ref (ad 95), .int a0, .int a1]) rvR (rMR M) M (f_X9_look F a0 a1 M) := by
  refine g_met (y := yX9_look) (by decide +kernel) (fun _ _ _ => Nat.le_of_ble_eq_true rfl) (fun X C => ?_)
  show G X (gQm X rvR (rMR M)) 3 M [(0, .ref (xad X 95)), (1, .int a0), (2, .int a1)] [] 0 (f_X9_look F a0 a1 M)
  unfold f_X9_look
  refine g_iload_n (pc := 0) C dX9_look_0 rfl 2 rfl ?_
  refine g_i2l (pc := 1) C dX9_look_1 ?_
  refine g_lconst (pc := 2) (v := 0) C dX9_look_2 rfl ?_
  refine g_ldc2 (pc := 3) C wl_X9_192 dX9_look_3 ?_
  refine g_callR (pc := 6) C (g_runS (stk := []) C (c_X9_in a1.toInt64 (0 : Int64) (2 : Int64) M) rfl rfl rfl wC_X9_in wS_X9_in wi_X9 wm_X9_89 hy_X9_in (by decide) (Nat.le_of_ble_eq_true rfl) dX9_look_6) (fun r1 => ?_)
  refine g_if_ne (pc := 9) (tgt := 15) C dX9_look_9 (by decide) ?_ ?_
  · refine g_iload_n (pc := 15) C dX9_look_15 rfl 1 rfl ?_
    refine g_i2l (pc := 16) C dX9_look_16 ?_
    refine g_lconst (pc := 17) (v := 0) C dX9_look_17 rfl ?_
    refine g_aload_n (pc := 18) C dX9_look_18 rfl 0 rfl ?_
    refine gf_X9_165 (pc := 19) C kd_95 dX9_look_19 ?_
    refine g_iconst (pc := 22) C dX9_look_22 ic_iconst_1 ?_
    refine g_isub (pc := 23) C dX9_look_23 ?_
    refine g_i2l (pc := 24) C dX9_look_24 ?_
    refine g_callR (pc := 25) C (g_runS (stk := []) C (c_X9_in a0.toInt64 (0 : Int64) (((M 95 21) - (1 : Int32)).toInt64) M) rfl rfl rfl wC_X9_in wS_X9_in wi_X9 wm_X9_89 hy_X9_in (by decide) (Nat.le_of_ble_eq_true rfl) dX9_look_25) (fun r2 => ?_)
    refine g_if_ne (pc := 28) (tgt := 33) C dX9_look_28 (by decide) ?_ ?_
    · refine g_iload_n (pc := 33) C dX9_look_33 rfl 2 rfl ?_
      refine g_if_ne (pc := 34) (tgt := 46) C dX9_look_34 (by decide) ?_ ?_
      · refine g_aload_n (pc := 46) C dX9_look_46 rfl 0 rfl ?_
        refine g_iload_n (pc := 47) C dX9_look_47 rfl 2 rfl ?_
        refine g_iconst (pc := 48) C dX9_look_48 ic_iconst_1 ?_
        refine g_icmp_ne (pc := 49) (tgt := 56) C dX9_look_49 (by decide) ?_ ?_
        · refine g_bipush (pc := 56) C dX9_look_56 ic_bipush_10 ?_
          refine g_sub (lv' := [(0, .ref (xad X 95)), (1, .int a0)]) [0, 1] rfl ?_
          exact g_X9_look_b58 C F a0 a1 M (10 : Int32)
        · refine g_iconst (pc := 52) C dX9_look_52 ic_iconst_0 ?_
          refine g_goto (pc := 53) (tgt := 58) C dX9_look_53 (by decide) ?_
          refine g_sub (lv' := [(0, .ref (xad X 95)), (1, .int a0)]) [0, 1] rfl ?_
          exact g_X9_look_b58 C F a0 a1 M (0 : Int32)
      · refine g_aload_n (pc := 37) C dX9_look_37 rfl 0 rfl ?_
        refine gf_X9_57 (pc := 38) (u := 110) C kd_95 rfl dX9_look_38 ?_
        refine g_iload_n (pc := 41) C dX9_look_41 rfl 1 rfl ?_
        refine g_iald (pc := 42) C kd_110 dX9_look_42 ?_
        refine g_goto (pc := 43) (tgt := 67) C dX9_look_43 (by decide) ?_
        exact g_iret (pc := 67) C dX9_look_67 rfl rfl
    · refine g_iconst (pc := 31) C dX9_look_31 ic_iconst_m1 ?_
      exact g_iret (pc := 32) C dX9_look_32 rfl rfl
  · refine g_ldc (pc := 12) C wk_X9_93 dX9_look_12 ?_
    exact g_iret (pc := 14) C dX9_look_14 rfl rfl

/-! X9_part -/
set_option maxRecDepth 100000 in
set_option maxHeartbeats 4000000 in
theorem c_X9_part (a0 : Int32) (a1 : Int32)  (M : gM) : gCt yX9_part cX9_part 3 (some .int) 2 46 (fun ad K V => [.ref (ad 95), .int a0, .int a1]) rvR (rMR M) M (f_X9_part a0 a1 M) := by
  refine g_met (y := yX9_part) (by decide +kernel) (fun _ _ _ => Nat.le_of_ble_eq_true rfl) (fun X C => ?_)
  show G X (gQm X rvR (rMR M)) 3 M [(0, .ref (xad X 95)), (1, .int a0), (2, .int a1)] [] 0 (f_X9_part a0 a1 M)
  unfold f_X9_part
  refine g_aload_n (pc := 0) C dX9_part_0 rfl 0 rfl ?_
  refine g_iload_n (pc := 1) C dX9_part_1 rfl 1 rfl ?_
  refine g_callR (pc := 2) C (g_runV (stk := []) C (c_X9_isPart a0 M) rfl rfl rfl kd_95 rfl wC_X9_isPart wI_X9_isPart wV_X9_isPart wi_X9 wm_X9_184 hy_X9_isPart (by decide) (Nat.le_of_ble_eq_true rfl) dX9_part_2) (fun r1 => ?_)
  refine g_if_ne (pc := 5) (tgt := 11) C dX9_part_5 (by decide) ?_ ?_
  · refine g_iload_n (pc := 11) C dX9_part_11 rfl 2 rfl ?_
    refine g_case (pc := 12) (tgt := 60) (ai := 0) C dX9_part_12 (by decide) (by decide) (by decide) rfl (by decide) ?_ (fun hc2 => ?_)
    · refine g_aload_n (pc := 60) C dX9_part_60 rfl 0 rfl ?_
      refine gf_X9_17 (pc := 61) (u := 98) C kd_95 rfl dX9_part_61 ?_
      refine g_iload_n (pc := 64) C dX9_part_64 rfl 1 rfl ?_
      refine g_iald (pc := 65) C kd_98 dX9_part_65 ?_
      exact g_iret (pc := 66) C dX9_part_66 rfl rfl
    refine g_case (pc := 12) (tgt := 67) (ai := 1) C dX9_part_12 (by decide) (by decide) (by decide) rfl (by decide) ?_ (fun hc3 => ?_)
    · refine g_aload_n (pc := 67) C dX9_part_67 rfl 0 rfl ?_
      refine gf_X9_20 (pc := 68) (u := 99) C kd_95 rfl dX9_part_68 ?_
      refine g_iload_n (pc := 71) C dX9_part_71 rfl 1 rfl ?_
      refine g_iald (pc := 72) C kd_99 dX9_part_72 ?_
      exact g_iret (pc := 73) C dX9_part_73 rfl rfl
    refine g_case (pc := 12) (tgt := 74) (ai := 2) C dX9_part_12 (by decide) (by decide) (by decide) rfl (by decide) ?_ (fun hc4 => ?_)
    · refine g_aload_n (pc := 74) C dX9_part_74 rfl 0 rfl ?_
      refine gf_X9_7 (pc := 75) (u := 96) C kd_95 rfl dX9_part_75 ?_
      refine g_iload_n (pc := 78) C dX9_part_78 rfl 1 rfl ?_
      refine g_iald (pc := 79) C kd_96 dX9_part_79 ?_
      exact g_iret (pc := 80) C dX9_part_80 rfl rfl
    refine g_case (pc := 12) (tgt := 81) (ai := 3) C dX9_part_12 (by decide) (by decide) (by decide) rfl (by decide) ?_ (fun hc5 => ?_)
    · refine g_aload_n (pc := 81) C dX9_part_81 rfl 0 rfl ?_
      refine gf_X9_7 (pc := 82) (u := 96) C kd_95 rfl dX9_part_82 ?_
      refine g_bipush (pc := 85) C dX9_part_85 ic_bipush_10 ?_
      refine g_iload_n (pc := 87) C dX9_part_87 rfl 1 rfl ?_
      refine g_iadd (pc := 88) C dX9_part_88 ?_
      refine g_iald (pc := 89) C kd_96 dX9_part_89 ?_
      exact g_iret (pc := 90) C dX9_part_90 rfl rfl
    refine g_case (pc := 12) (tgt := 91) (ai := 4) C dX9_part_12 (by decide) (by decide) (by decide) rfl (by decide) ?_ (fun hc6 => ?_)
    · refine g_aload_n (pc := 91) C dX9_part_91 rfl 0 rfl ?_
      refine gf_X9_29 (pc := 92) (u := 102) C kd_95 rfl dX9_part_92 ?_
      refine g_iload_n (pc := 95) C dX9_part_95 rfl 1 rfl ?_
      refine g_iald (pc := 96) C kd_102 dX9_part_96 ?_
      exact g_iret (pc := 97) C dX9_part_97 rfl rfl
    refine g_case (pc := 12) (tgt := 98) (ai := 5) C dX9_part_12 (by decide) (by decide) (by decide) rfl (by decide) ?_ (fun hc7 => ?_)
    · refine g_aload_n (pc := 98) C dX9_part_98 rfl 0 rfl ?_
      refine gf_X9_32 (pc := 99) (u := 103) C kd_95 rfl dX9_part_99 ?_
      refine g_iload_n (pc := 102) C dX9_part_102 rfl 1 rfl ?_
      refine g_iald (pc := 103) C kd_103 dX9_part_103 ?_
      exact g_iret (pc := 104) C dX9_part_104 rfl rfl
    refine g_case (pc := 12) (tgt := 105) (ai := 6) C dX9_part_12 (by decide) (by decide) (by decide) rfl (by decide) ?_ (fun hc8 => ?_)
    · refine g_aload_n (pc := 105) C dX9_part_105 rfl 0 rfl ?_
      refine gf_X9_35 (pc := 106) (u := 104) C kd_95 rfl dX9_part_106 ?_
      refine g_iload_n (pc := 109) C dX9_part_109 rfl 1 rfl ?_
      refine g_iald (pc := 110) C kd_104 dX9_part_110 ?_
      exact g_iret (pc := 111) C dX9_part_111 rfl rfl
    refine g_case (pc := 12) (tgt := 112) (ai := 7) C dX9_part_12 (by decide) (by decide) (by decide) rfl (by decide) ?_ (fun hc9 => ?_)
    · refine g_aload_n (pc := 112) C dX9_part_112 rfl 0 rfl ?_
      refine gf_X9_7 (pc := 113) (u := 96) C kd_95 rfl dX9_part_113 ?_
      refine g_bipush (pc := 116) C dX9_part_116 ic_bipush_20 ?_
      refine g_iload_n (pc := 118) C dX9_part_118 rfl 1 rfl ?_
      refine g_iadd (pc := 119) C dX9_part_119 ?_
      refine g_iald (pc := 120) C kd_96 dX9_part_120 ?_
      exact g_iret (pc := 121) C dX9_part_121 rfl rfl
    refine g_dflt (pc := 12) (tgt := 122) C dX9_part_12 (by omega) (by decide) ?_
    refine g_ldc (pc := 122) C wk_X9_93 dX9_part_122 ?_
    exact g_iret (pc := 124) C dX9_part_124 rfl rfl
  · refine g_ldc (pc := 8) C wk_X9_188 dX9_part_8 ?_
    exact g_iret (pc := 10) C dX9_part_10 rfl rfl

/-! X9_price -/
set_option maxRecDepth 100000 in
set_option maxHeartbeats 4000000 in
theorem c_X9_price (a0 : Int32) (a1 : Int32)  (M : gM) : gCt yX9_price cX9_price 4 (some .int) 2 46 (fun ad K V => [.ref (ad 95), .int a0, .int a1]) rvW rMW M (f_X9_price a0 a1 M) := by
  refine g_met (y := yX9_price) (by decide +kernel) (fun _ _ _ => Nat.le_of_ble_eq_true rfl) (fun X C => ?_)
  show G X (gQm X rvW rMW) 4 M [(0, .ref (xad X 95)), (1, .int a0), (2, .int a1)] [] 0 (f_X9_price a0 a1 M)
  unfold f_X9_price
  refine g_aload_n (pc := 0) C dX9_price_0 rfl 0 rfl ?_
  refine g_iload_n (pc := 1) C dX9_price_1 rfl 1 rfl ?_
  refine g_callR (pc := 2) C (g_runV (stk := []) C (c_X9_isPart a0 M) rfl rfl rfl kd_95 rfl wC_X9_isPart wI_X9_isPart wV_X9_isPart wi_X9 wm_X9_184 hy_X9_isPart (by decide) (Nat.le_of_ble_eq_true rfl) dX9_price_2) (fun r1 => ?_)
  refine g_if_ne (pc := 5) (tgt := 11) C dX9_price_5 (by decide) ?_ ?_
  · refine g_iload_n (pc := 11) C dX9_price_11 rfl 2 rfl ?_
    refine g_i2l (pc := 12) C dX9_price_12 ?_
    refine g_lconst (pc := 13) (v := 0) C dX9_price_13 rfl ?_
    refine g_ldc2 (pc := 14) C wl_X9_194 dX9_price_14 ?_
    refine g_callR (pc := 17) C (g_runS (stk := []) C (c_X9_in a1.toInt64 (0 : Int64) (99 : Int64) M) rfl rfl rfl wC_X9_in wS_X9_in wi_X9 wm_X9_89 hy_X9_in (by decide) (Nat.le_of_ble_eq_true rfl) dX9_price_17) (fun r2 => ?_)
    refine g_if_ne (pc := 20) (tgt := 26) C dX9_price_20 (by decide) ?_ ?_
    · refine g_aload_n (pc := 26) C dX9_price_26 rfl 0 rfl ?_
      refine gf_X9_7 (pc := 27) (u := 96) C kd_95 rfl dX9_price_27 ?_
      refine g_bipush (pc := 30) C dX9_price_30 ic_bipush_10 ?_
      refine g_iload_n (pc := 32) C dX9_price_32 rfl 1 rfl ?_
      refine g_iadd (pc := 33) C dX9_price_33 ?_
      refine g_iald (pc := 34) C kd_96 dX9_price_34 ?_
      refine g_lt (fun v3 => ?_)
      refine g_istore_n (pc := 35) (lv' := [(3, .int v3), (0, .ref (xad X 95)), (1, .int a0), (2, .int a1)]) C dX9_price_35 rfl (by decide) rfl ?_
      refine g_aload_n (pc := 36) C dX9_price_36 rfl 1 rfl ?_
      refine gf_X9_7 (pc := 37) (u := 96) C kd_95 rfl dX9_price_37 ?_
      refine g_bipush (pc := 40) C dX9_price_40 ic_bipush_10 ?_
      refine g_iload_n (pc := 42) C dX9_price_42 rfl 2 rfl ?_
      refine g_iadd (pc := 43) C dX9_price_43 ?_
      refine g_iload_n (pc := 44) C dX9_price_44 rfl 3 rfl ?_
      refine g_iast (pc := 45) C kd_96 dX9_price_45 ?_
      refine g_ltM (fun M4 => ?_)
      refine g_iload_n (pc := 46) C dX9_price_46 rfl 0 rfl ?_
      exact g_iret (pc := 47) C dX9_price_47 rfl rfl
    · refine g_ldc (pc := 23) C wk_X9_93 dX9_price_23 ?_
      exact g_iret (pc := 25) C dX9_price_25 rfl rfl
  · refine g_ldc (pc := 8) C wk_X9_188 dX9_price_8 ?_
    exact g_iret (pc := 10) C dX9_price_10 rfl rfl

/-! X9_rentIn -/
set_option maxRecDepth 100000 in
set_option maxHeartbeats 4000000 in
theorem g_X9_rentIn_h38_b {X : gX} (C : gC X cX9_rentIn RX9 6 (some .int) 4 94) (F : Nat) (a0 : Int32) (a1 : Int32) (k28 : Int32 → Int32 → gM → Option (Int32 × gM)) (hk28 : ∀ (x3 : Int32) (x4 : Int32) (M : gM), G X (gQm X rvW rMW) 6 M [(0, .ref (xad X 95)), (1, .int a0), (2, .int a1), (3, .int x3), (4, .int x4)] [] 28 (k28 x3 x4 M)) (k38 : Int32 → Int32 → Int32 → gM → Option (Int32 × gM)) (hk38 : ∀ (x3 : Int32) (x4 : Int32) (x5 : Int32) (M : gM), G X (gQm X rvW rMW) 6 M [(0, .ref (xad X 95)), (1, .int a0), (2, .int a1), (3, .int x3), (4, .int x4), (5, .int x5)] [] 38 (k38 x3 x4 x5 M)) (x3 : Int32) (x4 : Int32) (x5 : Int32) (M : gM) : G X (gQm X rvW rMW) 6 M [(0, .ref (xad X 95)), (1, .int a0), (2, .int a1), (3, .int x3), (4, .int x4), (5, .int x5)] [] 38 (f_X9_rentIn_h38_b F a0 a1 k28 k38 x3 x4 x5 M) := by
  unfold f_X9_rentIn_h38_b
  refine g_iload (pc := 38) C dX9_rentIn_38 5 rfl ?_
  refine g_aload_n (pc := 40) C dX9_rentIn_40 rfl 0 rfl ?_
  refine gf_X9_47 (pc := 41) (u := 108) C kd_95 rfl dX9_rentIn_41 ?_
  refine g_iconst (pc := 44) C dX9_rentIn_44 ic_iconst_0 ?_
  refine g_iald (pc := 45) C kd_108 dX9_rentIn_45 ?_
  refine g_icmp_ge (pc := 46) (tgt := 100) C dX9_rentIn_46 (by decide) ?_ ?_
  · refine g_iinc (pc := 100) (j := 4) (lv' := [(4, .int (x4 + (1 : Int32))), (0, .ref (xad X 95)), (1, .int a0), (2, .int a1), (3, .int x3), (5, .int x5)]) C dX9_rentIn_100 rfl (ii_1 _) (by decide) rfl ?_
    refine g_goto (pc := 103) (tgt := 28) C dX9_rentIn_103 (by decide) ?_
    refine g_sub (lv' := [(0, .ref (xad X 95)), (1, .int a0), (2, .int a1), (3, .int x3), (4, .int (x4 + (1 : Int32)))]) [1, 2, 3, 4, 0] rfl ?_
    exact hk28 x3 (x4 + (1 : Int32)) M
  · refine g_iload_n (pc := 49) C dX9_rentIn_49 rfl 3 rfl ?_
    refine g_aload_n (pc := 50) C dX9_rentIn_50 rfl 0 rfl ?_
    refine gf_X9_72 (pc := 51) (u := 115) C kd_95 rfl dX9_rentIn_51 ?_
    refine g_iload (pc := 54) C dX9_rentIn_54 4 rfl ?_
    refine g_iald (pc := 56) C kd_115 dX9_rentIn_56 ?_
    refine g_iload (pc := 57) C dX9_rentIn_57 5 rfl ?_
    refine g_callR (pc := 59) C (g_runS (stk := [.int x3]) C (c_X9_has (M 115 x4.toNatClampNeg) x5 M) rfl rfl rfl wC_X9_has wS_X9_has wi_X9 wm_X9_140 hy_X9_has (by decide) (Nat.le_of_ble_eq_true rfl) dX9_rentIn_59) (fun r3 => ?_)
    refine g_if_eq (pc := 62) (tgt := 91) C dX9_rentIn_62 (by decide) ?_ ?_
    · refine g_iconst (pc := 91) C dX9_rentIn_91 ic_iconst_0 ?_
      refine g_iadd (pc := 92) C dX9_rentIn_92 ?_
      refine g_lt (fun v4 => ?_)
      refine g_istore_n (pc := 93) (lv' := [(3, .int v4), (0, .ref (xad X 95)), (1, .int a0), (2, .int a1), (4, .int x4), (5, .int x5)]) C dX9_rentIn_93 rfl (by decide) rfl ?_
      refine g_iinc (pc := 94) (j := 5) (lv' := [(5, .int (x5 + (1 : Int32))), (3, .int v4), (0, .ref (xad X 95)), (1, .int a0), (2, .int a1), (4, .int x4)]) C dX9_rentIn_94 rfl (ii_1 _) (by decide) rfl ?_
      refine g_goto (pc := 97) (tgt := 38) C dX9_rentIn_97 (by decide) ?_
      refine g_sub (lv' := [(0, .ref (xad X 95)), (1, .int a0), (2, .int a1), (3, .int v4), (4, .int x4), (5, .int (x5 + (1 : Int32)))]) [2, 3, 4, 1, 5, 0] rfl ?_
      exact hk38 v4 x4 (x5 + (1 : Int32)) M
    · refine g_aload_n (pc := 65) C dX9_rentIn_65 rfl 0 rfl ?_
      refine gf_X9_20 (pc := 66) (u := 99) C kd_95 rfl dX9_rentIn_66 ?_
      refine g_iload (pc := 69) C dX9_rentIn_69 5 rfl ?_
      refine g_iald (pc := 71) C kd_99 dX9_rentIn_71 ?_
      refine g_iload_n (pc := 72) C dX9_rentIn_72 rfl 2 rfl ?_
      refine g_icmp_ne (pc := 73) (tgt := 91) C dX9_rentIn_73 (by decide) ?_ ?_
      · refine g_iconst (pc := 91) C dX9_rentIn_91 ic_iconst_0 ?_
        refine g_iadd (pc := 92) C dX9_rentIn_92 ?_
        refine g_lt (fun v5 => ?_)
        refine g_istore_n (pc := 93) (lv' := [(3, .int v5), (0, .ref (xad X 95)), (1, .int a0), (2, .int a1), (4, .int x4), (5, .int x5)]) C dX9_rentIn_93 rfl (by decide) rfl ?_
        refine g_iinc (pc := 94) (j := 5) (lv' := [(5, .int (x5 + (1 : Int32))), (3, .int v5), (0, .ref (xad X 95)), (1, .int a0), (2, .int a1), (4, .int x4)]) C dX9_rentIn_94 rfl (ii_1 _) (by decide) rfl ?_
        refine g_goto (pc := 97) (tgt := 38) C dX9_rentIn_97 (by decide) ?_
        refine g_sub (lv' := [(0, .ref (xad X 95)), (1, .int a0), (2, .int a1), (3, .int v5), (4, .int x4), (5, .int (x5 + (1 : Int32)))]) [2, 3, 4, 1, 5, 0] rfl ?_
        exact hk38 v5 x4 (x5 + (1 : Int32)) M
      · refine g_aload_n (pc := 76) C dX9_rentIn_76 rfl 0 rfl ?_
        refine gf_X9_7 (pc := 77) (u := 96) C kd_95 rfl dX9_rentIn_77 ?_
        refine g_iload_n (pc := 80) C dX9_rentIn_80 rfl 1 rfl ?_
        refine g_bipush (pc := 81) C dX9_rentIn_81 ic_bipush_10 ?_
        refine g_iadd (pc := 83) C dX9_rentIn_83 ?_
        refine g_iload (pc := 84) C dX9_rentIn_84 5 rfl ?_
        refine g_iadd (pc := 86) C dX9_rentIn_86 ?_
        refine g_iald (pc := 87) C kd_96 dX9_rentIn_87 ?_
        refine g_goto (pc := 88) (tgt := 92) C dX9_rentIn_88 (by decide) ?_
        refine g_iadd (pc := 92) C dX9_rentIn_92 ?_
        refine g_lt (fun v6 => ?_)
        refine g_istore_n (pc := 93) (lv' := [(3, .int v6), (0, .ref (xad X 95)), (1, .int a0), (2, .int a1), (4, .int x4), (5, .int x5)]) C dX9_rentIn_93 rfl (by decide) rfl ?_
        refine g_iinc (pc := 94) (j := 5) (lv' := [(5, .int (x5 + (1 : Int32))), (3, .int v6), (0, .ref (xad X 95)), (1, .int a0), (2, .int a1), (4, .int x4)]) C dX9_rentIn_94 rfl (ii_1 _) (by decide) rfl ?_
        refine g_goto (pc := 97) (tgt := 38) C dX9_rentIn_97 (by decide) ?_
        refine g_sub (lv' := [(0, .ref (xad X 95)), (1, .int a0), (2, .int a1), (3, .int v6), (4, .int x4), (5, .int (x5 + (1 : Int32)))]) [2, 3, 4, 1, 5, 0] rfl ?_
        exact hk38 v6 x4 (x5 + (1 : Int32)) M

theorem g_X9_rentIn_h38 {X : gX} (C : gC X cX9_rentIn RX9 6 (some .int) 4 94) (F : Nat) (a0 : Int32) (a1 : Int32) (k28 : Int32 → Int32 → gM → Option (Int32 × gM)) (hk28 : ∀ (x3 : Int32) (x4 : Int32) (M : gM), G X (gQm X rvW rMW) 6 M [(0, .ref (xad X 95)), (1, .int a0), (2, .int a1), (3, .int x3), (4, .int x4)] [] 28 (k28 x3 x4 M)) : ∀ (n : Nat) (x3 : Int32) (x4 : Int32) (x5 : Int32) (M : gM), G X (gQm X rvW rMW) 6 M [(0, .ref (xad X 95)), (1, .int a0), (2, .int a1), (3, .int x3), (4, .int x4), (5, .int x5)] [] 38 (f_X9_rentIn_h38 F a0 a1 k28 n x3 x4 x5 M) := by
  intro n
  induction n with
  | zero =>
    intro x3 x4 x5 M r hr
    have hr2 : (none : Option (Int32 × gM)) = some r := hr
    cases hr2
  | succ n ih =>
    intro x3 x4 x5 M
    exact g_X9_rentIn_h38_b C F a0 a1 k28 hk28 _ ih x3 x4 x5 M
set_option maxRecDepth 100000 in
set_option maxHeartbeats 4000000 in
theorem g_X9_rentIn_h28_b {X : gX} (C : gC X cX9_rentIn RX9 6 (some .int) 4 94) (F : Nat) (a0 : Int32) (a1 : Int32) (k28 : Int32 → Int32 → gM → Option (Int32 × gM)) (hk28 : ∀ (x3 : Int32) (x4 : Int32) (M : gM), G X (gQm X rvW rMW) 6 M [(0, .ref (xad X 95)), (1, .int a0), (2, .int a1), (3, .int x3), (4, .int x4)] [] 28 (k28 x3 x4 M)) (x3 : Int32) (x4 : Int32) (M : gM) : G X (gQm X rvW rMW) 6 M [(0, .ref (xad X 95)), (1, .int a0), (2, .int a1), (3, .int x3), (4, .int x4)] [] 28 (f_X9_rentIn_h28_b F a0 a1 k28 x3 x4 M) := by
  unfold f_X9_rentIn_h28_b
  refine g_iload (pc := 28) C dX9_rentIn_28 4 rfl ?_
  refine g_bipush (pc := 30) C dX9_rentIn_30 ic_bipush_12 ?_
  refine g_icmp_ge (pc := 32) (tgt := 106) C dX9_rentIn_32 (by decide) ?_ ?_
  · refine g_iload_n (pc := 106) C dX9_rentIn_106 rfl 3 rfl ?_
    exact g_iret (pc := 107) C dX9_rentIn_107 rfl rfl
  · refine g_iconst (pc := 35) C dX9_rentIn_35 ic_iconst_0 ?_
    refine g_istore (pc := 36) (lv' := [(5, .int (0 : Int32)), (0, .ref (xad X 95)), (1, .int a0), (2, .int a1), (3, .int x3), (4, .int x4)]) C dX9_rentIn_36 (by decide) rfl ?_
    refine g_sub (lv' := [(0, .ref (xad X 95)), (1, .int a0), (2, .int a1), (3, .int x3), (4, .int x4), (5, .int (0 : Int32))]) [1, 2, 3, 4, 5, 0] rfl ?_
    exact g_X9_rentIn_h38 C F a0 a1 k28 hk28 F x3 x4 (0 : Int32) M

theorem g_X9_rentIn_h28 {X : gX} (C : gC X cX9_rentIn RX9 6 (some .int) 4 94) (F : Nat) (a0 : Int32) (a1 : Int32) : ∀ (n : Nat) (x3 : Int32) (x4 : Int32) (M : gM), G X (gQm X rvW rMW) 6 M [(0, .ref (xad X 95)), (1, .int a0), (2, .int a1), (3, .int x3), (4, .int x4)] [] 28 (f_X9_rentIn_h28 F a0 a1 n x3 x4 M) := by
  intro n
  induction n with
  | zero =>
    intro x3 x4 M r hr
    have hr2 : (none : Option (Int32 × gM)) = some r := hr
    cases hr2
  | succ n ih =>
    intro x3 x4 M
    exact g_X9_rentIn_h28_b C F a0 a1 _ ih x3 x4 M
set_option maxRecDepth 100000 in
set_option maxHeartbeats 4000000 in
theorem c_X9_rentIn (F : Nat) (a0 : Int32) (a1 : Int32)  (M : gM) : gCt yX9_rentIn cX9_rentIn 6 (some .int) 4 94 (fun ad K V => [.ref (ad 95), .int a0, .int a1]) rvW rMW M (f_X9_rentIn F a0 a1 M) := by
  refine g_met (y := yX9_rentIn) (by decide +kernel) (fun _ _ _ => Nat.le_of_ble_eq_true rfl) (fun X C => ?_)
  show G X (gQm X rvW rMW) 6 M [(0, .ref (xad X 95)), (1, .int a0), (2, .int a1)] [] 0 (f_X9_rentIn F a0 a1 M)
  unfold f_X9_rentIn
  refine g_aload_n (pc := 0) C dX9_rentIn_0 rfl 0 rfl ?_
  refine g_iload_n (pc := 1) C dX9_rentIn_1 rfl 1 rfl ?_
  refine g_callV (pc := 2) C (g_runV (stk := []) C (c_X9_findLeast F a0 M) rfl rfl rfl kd_95 rfl wC_X9_findLeast wI_X9_findLeast wV_X9_findLeast wi_X9 wm_X9_221 hy_X9_findLeast (by decide) (Nat.le_of_ble_eq_true rfl) dX9_rentIn_2) (fun r1 => ?_)
  refine g_aload_n (pc := 5) C dX9_rentIn_5 rfl 0 rfl ?_
  refine gf_X9_63 (pc := 6) (u := 112) C kd_95 rfl dX9_rentIn_6 ?_
  refine g_iconst (pc := 9) C dX9_rentIn_9 ic_iconst_0 ?_
  refine g_iald (pc := 10) C kd_112 dX9_rentIn_10 ?_
  refine g_ldc (pc := 11) C wk_X9_209 dX9_rentIn_11 ?_
  refine g_icmp_lt (pc := 13) (tgt := 18) C dX9_rentIn_13 (by decide) ?_ ?_
  · refine g_aload_n (pc := 18) C dX9_rentIn_18 rfl 0 rfl ?_
    refine g_iload_n (pc := 19) C dX9_rentIn_19 rfl 1 rfl ?_
    refine g_callV (pc := 20) C (g_runV (stk := []) C (c_X9_findWorn F a0 r1) rfl rfl rfl kd_95 rfl wC_X9_findWorn wI_X9_findWorn wV_X9_findWorn wi_X9 wm_X9_237 hy_X9_findWorn (by decide) (Nat.le_of_ble_eq_true rfl) dX9_rentIn_20) (fun r2 => ?_)
    refine g_iconst (pc := 23) C dX9_rentIn_23 ic_iconst_0 ?_
    refine g_istore_n (pc := 24) (lv' := [(3, .int (0 : Int32)), (0, .ref (xad X 95)), (1, .int a0), (2, .int a1)]) C dX9_rentIn_24 rfl (by decide) rfl ?_
    refine g_iconst (pc := 25) C dX9_rentIn_25 ic_iconst_0 ?_
    refine g_istore (pc := 26) (lv' := [(4, .int (0 : Int32)), (3, .int (0 : Int32)), (0, .ref (xad X 95)), (1, .int a0), (2, .int a1)]) C dX9_rentIn_26 (by decide) rfl ?_
    refine g_sub (lv' := [(0, .ref (xad X 95)), (1, .int a0), (2, .int a1), (3, .int (0 : Int32)), (4, .int (0 : Int32))]) [2, 3, 4, 1, 0] rfl ?_
    exact g_X9_rentIn_h28 C F a0 a1 F (0 : Int32) (0 : Int32) r2
  · refine g_iconst (pc := 16) C dX9_rentIn_16 ic_iconst_0 ?_
    exact g_iret (pc := 17) C dX9_rentIn_17 rfl rfl

/-! X9_raise -/
set_option maxRecDepth 100000 in
set_option maxHeartbeats 4000000 in
theorem g_X9_raise_b93 {X : gX} (C : gC X cX9_raise RX9 8 (some .int) 6 141) (F : Nat) (a0 : Int32) (a1 : Int32) (k38 : Int32 → Int32 → Int32 → gM → Option (Int32 × gM)) (k55 : Int32 → Int32 → Int32 → Int32 → gM → Option (Int32 × gM)) (hk38 : ∀ (x3 : Int32) (x4 : Int32) (x5 : Int32) (M : gM), G X (gQm X rvW rMW) 8 M [(0, .ref (xad X 95)), (1, .int a0), (2, .int a1), (3, .int x3), (4, .int x4), (5, .int x5)] [] 38 (k38 x3 x4 x5 M)) (hk55 : ∀ (x3 : Int32) (x4 : Int32) (x5 : Int32) (x6 : Int32) (M : gM), G X (gQm X rvW rMW) 8 M [(0, .ref (xad X 95)), (1, .int a0), (2, .int a1), (3, .int x3), (4, .int x4), (5, .int x5), (6, .int x6)] [] 55 (k55 x3 x4 x5 x6 M)) (x3 : Int32) (x4 : Int32) (x5 : Int32) (x6 : Int32) (s0 : Int32) (s1 : Int32) (M : gM) : G X (gQm X rvW rMW) 8 M [(0, .ref (xad X 95)), (1, .int a0), (2, .int a1), (3, .int x3), (4, .int x4), (5, .int x5), (6, .int x6)] [.int s0, .int s1] 93 (f_X9_raise_b93 F a0 a1 k38 k55 x3 x4 x5 x6 s0 s1 M) := by
  unfold f_X9_raise_b93
  refine g_iadd (pc := 93) C dX9_raise_93 ?_
  refine g_lt (fun v7 => ?_)
  refine g_istore (pc := 94) (lv' := [(7, .int v7), (0, .ref (xad X 95)), (1, .int a0), (2, .int a1), (3, .int x3), (4, .int x4), (5, .int x5), (6, .int x6)]) C dX9_raise_94 (by decide) rfl ?_
  refine g_aload_n (pc := 96) C dX9_raise_96 rfl 1 rfl ?_
  refine gf_X9_7 (pc := 97) (u := 96) C kd_95 rfl dX9_raise_97 ?_
  refine g_bipush (pc := 100) C dX9_raise_100 ic_bipush_50 ?_
  refine g_iload (pc := 102) C dX9_raise_102 7 rfl ?_
  refine g_iadd (pc := 104) C dX9_raise_104 ?_
  refine g_iload (pc := 105) C dX9_raise_105 0 rfl ?_
  refine g_bipush (pc := 107) C dX9_raise_107 ic_bipush_99 ?_
  refine g_icmp_le (pc := 109) (tgt := 117) C dX9_raise_109 (by decide) ?_ ?_
  · refine g_iload (pc := 117) C dX9_raise_117 0 rfl ?_
    refine g_iast (pc := 119) C kd_96 dX9_raise_119 ?_
    refine g_ltM (fun M8 => ?_)
    refine g_iinc (pc := 120) (j := 7) (lv' := [(6, .int (x6 + (1 : Int32))), (7, .int v7), (0, .ref (xad X 95)), (1, .int a0), (2, .int a1), (3, .int x3), (4, .int x4), (5, .int x5)]) C dX9_raise_120 rfl (ii_1 _) (by decide) rfl ?_
    refine g_goto (pc := 123) (tgt := 55) C dX9_raise_123 (by decide) ?_
    refine g_sub (lv' := [(0, .ref (xad X 95)), (1, .int a0), (2, .int a1), (3, .int x3), (4, .int x4), (5, .int x5), (6, .int (x6 + (1 : Int32)))]) [2, 3, 4, 5, 6, 7, 0] rfl ?_
    exact hk55 x3 x4 x5 (x6 + (1 : Int32)) M8
  · refine g_bipush (pc := 112) C dX9_raise_112 ic_bipush_99 ?_
    refine g_goto (pc := 114) (tgt := 119) C dX9_raise_114 (by decide) ?_
    refine g_iast (pc := 119) C kd_96 dX9_raise_119 ?_
    refine g_ltM (fun M9 => ?_)
    refine g_iinc (pc := 120) (j := 7) (lv' := [(6, .int (x6 + (1 : Int32))), (7, .int v7), (0, .ref (xad X 95)), (1, .int a0), (2, .int a1), (3, .int x3), (4, .int x4), (5, .int x5)]) C dX9_raise_120 rfl (ii_1 _) (by decide) rfl ?_
    refine g_goto (pc := 123) (tgt := 55) C dX9_raise_123 (by decide) ?_
    refine g_sub (lv' := [(0, .ref (xad X 95)), (1, .int a0), (2, .int a1), (3, .int x3), (4, .int x4), (5, .int x5), (6, .int (x6 + (1 : Int32)))]) [2, 3, 4, 5, 6, 7, 0] rfl ?_
    exact hk55 x3 x4 x5 (x6 + (1 : Int32)) M9

set_option maxRecDepth 100000 in
set_option maxHeartbeats 4000000 in
theorem g_X9_raise_h55_b {X : gX} (C : gC X cX9_raise RX9 8 (some .int) 6 141) (F : Nat) (a0 : Int32) (a1 : Int32) (k38 : Int32 → Int32 → Int32 → gM → Option (Int32 × gM)) (hk38 : ∀ (x3 : Int32) (x4 : Int32) (x5 : Int32) (M : gM), G X (gQm X rvW rMW) 8 M [(0, .ref (xad X 95)), (1, .int a0), (2, .int a1), (3, .int x3), (4, .int x4), (5, .int x5)] [] 38 (k38 x3 x4 x5 M)) (k55 : Int32 → Int32 → Int32 → Int32 → gM → Option (Int32 × gM)) (hk55 : ∀ (x3 : Int32) (x4 : Int32) (x5 : Int32) (x6 : Int32) (M : gM), G X (gQm X rvW rMW) 8 M [(0, .ref (xad X 95)), (1, .int a0), (2, .int a1), (3, .int x3), (4, .int x4), (5, .int x5), (6, .int x6)] [] 55 (k55 x3 x4 x5 x6 M)) (x3 : Int32) (x4 : Int32) (x5 : Int32) (x6 : Int32) (M : gM) : G X (gQm X rvW rMW) 8 M [(0, .ref (xad X 95)), (1, .int a0), (2, .int a1), (3, .int x3), (4, .int x4), (5, .int x5), (6, .int x6)] [] 55 (f_X9_raise_h55_b F a0 a1 k38 k55 x3 x4 x5 x6 M) := by
  unfold f_X9_raise_h55_b
  refine g_iload (pc := 55) C dX9_raise_55 6 rfl ?_
  refine g_aload_n (pc := 57) C dX9_raise_57 rfl 0 rfl ?_
  refine gf_X9_47 (pc := 58) (u := 108) C kd_95 rfl dX9_raise_58 ?_
  refine g_iconst (pc := 61) C dX9_raise_61 ic_iconst_0 ?_
  refine g_iald (pc := 62) C kd_108 dX9_raise_62 ?_
  refine g_icmp_ge (pc := 63) (tgt := 126) C dX9_raise_63 (by decide) ?_ ?_
  · refine g_aload_n (pc := 126) C dX9_raise_126 rfl 0 rfl ?_
    refine g_bipush (pc := 127) C dX9_raise_127 ic_bipush_40 ?_
    refine g_iload_n (pc := 129) C dX9_raise_129 rfl 1 rfl ?_
    refine g_callW (pc := 130) C (g_runV (stk := []) C (c_X9_rentIn F (40 : Int32) a0 M) rfl rfl rfl kd_95 rfl wC_X9_rentIn wI_X9_rentIn wV_X9_rentIn wi_X9 wm_X9_245 hy_X9_rentIn (by decide) (Nat.le_of_ble_eq_true rfl) dX9_raise_130) (fun r5 => ?_)
    refine g_lt (fun v6 => ?_)
    refine g_istore (pc := 133) (lv' := [(6, .int v6), (0, .ref (xad X 95)), (1, .int a0), (2, .int a1), (3, .int x3), (4, .int x4), (5, .int x5)]) C dX9_raise_133 (by decide) rfl ?_
    refine g_iload (pc := 135) C dX9_raise_135 0 rfl ?_
    refine g_iload (pc := 137) C dX9_raise_137 5 rfl ?_
    refine g_icmp_le (pc := 139) (tgt := 149) C dX9_raise_139 (by decide) ?_ ?_
    · refine g_iinc (pc := 149) (j := 6) (lv' := [(5, .int (x5 + (1 : Int32))), (6, .int v6), (0, .ref (xad X 95)), (1, .int a0), (2, .int a1), (3, .int x3), (4, .int x4)]) C dX9_raise_149 rfl (ii_1 _) (by decide) rfl ?_
      refine g_goto (pc := 152) (tgt := 38) C dX9_raise_152 (by decide) ?_
      refine g_sub (lv' := [(0, .ref (xad X 95)), (1, .int a0), (2, .int a1), (3, .int x3), (4, .int x4), (5, .int (x5 + (1 : Int32)))]) [2, 3, 4, 5, 6, 0] rfl ?_
      exact hk38 x3 x4 (x5 + (1 : Int32)) r5.2
    · refine g_iload (pc := 142) C dX9_raise_142 6 rfl ?_
      refine g_istore_n (pc := 144) (lv' := [(3, .int x5), (6, .int v6), (0, .ref (xad X 95)), (1, .int a0), (2, .int a1), (4, .int x4), (5, .int x5)]) C dX9_raise_144 rfl (by decide) rfl ?_
      refine g_iload (pc := 145) C dX9_raise_145 1 rfl ?_
      refine g_istore (pc := 147) (lv' := [(4, .int v6), (3, .int x5), (6, .int v6), (0, .ref (xad X 95)), (1, .int a0), (2, .int a1), (5, .int x5)]) C dX9_raise_147 (by decide) rfl ?_
      refine g_iinc (pc := 149) (j := 6) (lv' := [(5, .int (x5 + (1 : Int32))), (4, .int v6), (3, .int x5), (6, .int v6), (0, .ref (xad X 95)), (1, .int a0), (2, .int a1)]) C dX9_raise_149 rfl (ii_1 _) (by decide) rfl ?_
      refine g_goto (pc := 152) (tgt := 38) C dX9_raise_152 (by decide) ?_
      refine g_sub (lv' := [(0, .ref (xad X 95)), (1, .int a0), (2, .int a1), (3, .int x5), (4, .int v6), (5, .int (x5 + (1 : Int32)))]) [4, 5, 6, 2, 1, 0] rfl ?_
      exact hk38 x5 v6 (x5 + (1 : Int32)) r5.2
  · refine g_aload_n (pc := 66) C dX9_raise_66 rfl 0 rfl ?_
    refine gf_X9_7 (pc := 67) (u := 96) C kd_95 rfl dX9_raise_67 ?_
    refine g_bipush (pc := 70) C dX9_raise_70 ic_bipush_10 ?_
    refine g_iload (pc := 72) C dX9_raise_72 6 rfl ?_
    refine g_iadd (pc := 74) C dX9_raise_74 ?_
    refine g_iald (pc := 75) C kd_96 dX9_raise_75 ?_
    refine g_aload_n (pc := 76) C dX9_raise_76 rfl 0 rfl ?_
    refine gf_X9_20 (pc := 77) (u := 99) C kd_95 rfl dX9_raise_77 ?_
    refine g_iload (pc := 80) C dX9_raise_80 6 rfl ?_
    refine g_iald (pc := 82) C kd_99 dX9_raise_82 ?_
    refine g_iload_n (pc := 83) C dX9_raise_83 rfl 1 rfl ?_
    refine g_icmp_ne (pc := 84) (tgt := 92) C dX9_raise_84 (by decide) ?_ ?_
    · refine g_iconst (pc := 92) C dX9_raise_92 ic_iconst_0 ?_
      exact g_X9_raise_b93 C F a0 a1 k38 k55 hk38 hk55 x3 x4 x5 x6 (0 : Int32) (M 96 ((10 : Int32) + x6).toNatClampNeg) M
    · refine g_iload (pc := 87) C dX9_raise_87 5 rfl ?_
      refine g_goto (pc := 89) (tgt := 93) C dX9_raise_89 (by decide) ?_
      exact g_X9_raise_b93 C F a0 a1 k38 k55 hk38 hk55 x3 x4 x5 x6 x5 (M 96 ((10 : Int32) + x6).toNatClampNeg) M

theorem g_X9_raise_h55 {X : gX} (C : gC X cX9_raise RX9 8 (some .int) 6 141) (F : Nat) (a0 : Int32) (a1 : Int32) (k38 : Int32 → Int32 → Int32 → gM → Option (Int32 × gM)) (hk38 : ∀ (x3 : Int32) (x4 : Int32) (x5 : Int32) (M : gM), G X (gQm X rvW rMW) 8 M [(0, .ref (xad X 95)), (1, .int a0), (2, .int a1), (3, .int x3), (4, .int x4), (5, .int x5)] [] 38 (k38 x3 x4 x5 M)) : ∀ (n : Nat) (x3 : Int32) (x4 : Int32) (x5 : Int32) (x6 : Int32) (M : gM), G X (gQm X rvW rMW) 8 M [(0, .ref (xad X 95)), (1, .int a0), (2, .int a1), (3, .int x3), (4, .int x4), (5, .int x5), (6, .int x6)] [] 55 (f_X9_raise_h55 F a0 a1 k38 n x3 x4 x5 x6 M) := by
  intro n
  induction n with
  | zero =>
    intro x3 x4 x5 x6 M r hr
    have hr2 : (none : Option (Int32 × gM)) = some r := hr
    cases hr2
  | succ n ih =>
    intro x3 x4 x5 x6 M
    exact g_X9_raise_h55_b C F a0 a1 k38 hk38 _ ih x3 x4 x5 x6 M
set_option maxRecDepth 100000 in
set_option maxHeartbeats 4000000 in
theorem g_X9_raise_h38_b {X : gX} (C : gC X cX9_raise RX9 8 (some .int) 6 141) (F : Nat) (a0 : Int32) (a1 : Int32) (k38 : Int32 → Int32 → Int32 → gM → Option (Int32 × gM)) (hk38 : ∀ (x3 : Int32) (x4 : Int32) (x5 : Int32) (M : gM), G X (gQm X rvW rMW) 8 M [(0, .ref (xad X 95)), (1, .int a0), (2, .int a1), (3, .int x3), (4, .int x4), (5, .int x5)] [] 38 (k38 x3 x4 x5 M)) (x3 : Int32) (x4 : Int32) (x5 : Int32) (M : gM) : G X (gQm X rvW rMW) 8 M [(0, .ref (xad X 95)), (1, .int a0), (2, .int a1), (3, .int x3), (4, .int x4), (5, .int x5)] [] 38 (f_X9_raise_h38_b F a0 a1 k38 x3 x4 x5 M) := by
  unfold f_X9_raise_h38_b
  refine g_iload (pc := 38) C dX9_raise_38 5 rfl ?_
  refine g_bipush (pc := 40) C dX9_raise_40 ic_bipush_20 ?_
  refine g_icmp_gt (pc := 42) (tgt := 155) C dX9_raise_42 (by decide) ?_ ?_
  · refine g_iload_n (pc := 155) C dX9_raise_155 rfl 2 rfl ?_
    refine g_if_ne (pc := 156) (tgt := 163) C dX9_raise_156 (by decide) ?_ ?_
    · refine g_iload (pc := 163) C dX9_raise_163 4 rfl ?_
      exact g_iret (pc := 165) C dX9_raise_165 rfl rfl
    · refine g_iload_n (pc := 159) C dX9_raise_159 rfl 3 rfl ?_
      refine g_goto (pc := 160) (tgt := 165) C dX9_raise_160 (by decide) ?_
      exact g_iret (pc := 165) C dX9_raise_165 rfl rfl
  · refine g_aload_n (pc := 45) C dX9_raise_45 rfl 0 rfl ?_
    refine g_iconst (pc := 46) C dX9_raise_46 ic_iconst_0 ?_
    refine g_bipush (pc := 47) C dX9_raise_47 ic_bipush_40 ?_
    refine g_callV (pc := 49) C (g_runV (stk := []) C (c_X9_copy F (0 : Int32) (40 : Int32) M) rfl rfl rfl kd_95 rfl wC_X9_copy wI_X9_copy wV_X9_copy wi_X9 wm_X9_248 hy_X9_copy (by decide) (Nat.le_of_ble_eq_true rfl) dX9_raise_49) (fun r4 => ?_)
    refine g_iconst (pc := 52) C dX9_raise_52 ic_iconst_0 ?_
    refine g_istore (pc := 53) (lv' := [(6, .int (0 : Int32)), (0, .ref (xad X 95)), (1, .int a0), (2, .int a1), (3, .int x3), (4, .int x4), (5, .int x5)]) C dX9_raise_53 (by decide) rfl ?_
    refine g_sub (lv' := [(0, .ref (xad X 95)), (1, .int a0), (2, .int a1), (3, .int x3), (4, .int x4), (5, .int x5), (6, .int (0 : Int32))]) [1, 2, 3, 4, 5, 6, 0] rfl ?_
    exact g_X9_raise_h55 C F a0 a1 k38 hk38 F x3 x4 x5 (0 : Int32) r4

theorem g_X9_raise_h38 {X : gX} (C : gC X cX9_raise RX9 8 (some .int) 6 141) (F : Nat) (a0 : Int32) (a1 : Int32) : ∀ (n : Nat) (x3 : Int32) (x4 : Int32) (x5 : Int32) (M : gM), G X (gQm X rvW rMW) 8 M [(0, .ref (xad X 95)), (1, .int a0), (2, .int a1), (3, .int x3), (4, .int x4), (5, .int x5)] [] 38 (f_X9_raise_h38 F a0 a1 n x3 x4 x5 M) := by
  intro n
  induction n with
  | zero =>
    intro x3 x4 x5 M r hr
    have hr2 : (none : Option (Int32 × gM)) = some r := hr
    cases hr2
  | succ n ih =>
    intro x3 x4 x5 M
    exact g_X9_raise_h38_b C F a0 a1 _ ih x3 x4 x5 M
set_option maxRecDepth 100000 in
set_option maxHeartbeats 4000000 in
theorem c_X9_raise (F : Nat) (a0 : Int32) (a1 : Int32)  (M : gM) : gCt yX9_raise cX9_raise 8 (some .int) 6 141 (fun ad K V => [.ref (ad 95), .int a0, .int a1]) rvW rMW M (f_X9_raise F a0 a1 M) := by
  refine g_met (y := yX9_raise) (by decide +kernel) (fun _ _ _ => Nat.le_of_ble_eq_true rfl) (fun X C => ?_)
  show G X (gQm X rvW rMW) 8 M [(0, .ref (xad X 95)), (1, .int a0), (2, .int a1)] [] 0 (f_X9_raise F a0 a1 M)
  unfold f_X9_raise
  refine g_iload_n (pc := 0) C dX9_raise_0 rfl 1 rfl ?_
  refine g_i2l (pc := 1) C dX9_raise_1 ?_
  refine g_lconst (pc := 2) (v := 0) C dX9_raise_2 rfl ?_
  refine g_ldc2 (pc := 3) C wl_X9_243 dX9_raise_3 ?_
  refine g_callR (pc := 6) C (g_runS (stk := []) C (c_X9_in a0.toInt64 (0 : Int64) (3 : Int64) M) rfl rfl rfl wC_X9_in wS_X9_in wi_X9 wm_X9_89 hy_X9_in (by decide) (Nat.le_of_ble_eq_true rfl) dX9_raise_6) (fun r1 => ?_)
  refine g_if_eq (pc := 9) (tgt := 22) C dX9_raise_9 (by decide) ?_ ?_
  · refine g_ldc (pc := 22) C wk_X9_93 dX9_raise_22 ?_
    exact g_iret (pc := 24) C dX9_raise_24 rfl rfl
  · refine g_iload_n (pc := 12) C dX9_raise_12 rfl 2 rfl ?_
    refine g_i2l (pc := 13) C dX9_raise_13 ?_
    refine g_lconst (pc := 14) (v := 0) C dX9_raise_14 rfl ?_
    refine g_lconst (pc := 15) (v := 1) C dX9_raise_15 rfl ?_
    refine g_callR (pc := 16) C (g_runS (stk := []) C (c_X9_in a1.toInt64 (0 : Int64) (1 : Int64) M) rfl rfl rfl wC_X9_in wS_X9_in wi_X9 wm_X9_89 hy_X9_in (by decide) (Nat.le_of_ble_eq_true rfl) dX9_raise_16) (fun r2 => ?_)
    refine g_if_ne (pc := 19) (tgt := 25) C dX9_raise_19 (by decide) ?_ ?_
    · refine g_iconst (pc := 25) C dX9_raise_25 ic_iconst_0 ?_
      refine g_istore_n (pc := 26) (lv' := [(3, .int (0 : Int32)), (0, .ref (xad X 95)), (1, .int a0), (2, .int a1)]) C dX9_raise_26 rfl (by decide) rfl ?_
      refine g_iconst (pc := 27) C dX9_raise_27 ic_iconst_m1 ?_
      refine g_istore (pc := 28) (lv' := [(4, .int (-1 : Int32)), (3, .int (0 : Int32)), (0, .ref (xad X 95)), (1, .int a0), (2, .int a1)]) C dX9_raise_28 (by decide) rfl ?_
      refine g_aload_n (pc := 30) C dX9_raise_30 rfl 2 rfl ?_
      refine g_iconst (pc := 31) C dX9_raise_31 ic_iconst_0 ?_
      refine g_callV (pc := 32) C (g_runV (stk := []) C (c_X9_findAllSets F (0 : Int32) M) rfl rfl rfl kd_95 rfl wC_X9_findAllSets wI_X9_findAllSets wV_X9_findAllSets wi_X9 wm_X9_217 hy_X9_findAllSets (by decide) (Nat.le_of_ble_eq_true rfl) dX9_raise_32) (fun r3 => ?_)
      refine g_iconst (pc := 35) C dX9_raise_35 ic_iconst_0 ?_
      refine g_istore (pc := 36) (lv' := [(5, .int (0 : Int32)), (4, .int (-1 : Int32)), (3, .int (0 : Int32)), (0, .ref (xad X 95)), (1, .int a0), (2, .int a1)]) C dX9_raise_36 (by decide) rfl ?_
      refine g_sub (lv' := [(0, .ref (xad X 95)), (1, .int a0), (2, .int a1), (3, .int (0 : Int32)), (4, .int (-1 : Int32)), (5, .int (0 : Int32))]) [3, 4, 5, 2, 1, 0] rfl ?_
      exact g_X9_raise_h38 C F a0 a1 F (0 : Int32) (-1 : Int32) (0 : Int32) r3
    · refine g_ldc (pc := 22) C wk_X9_93 dX9_raise_22 ?_
      exact g_iret (pc := 24) C dX9_raise_24 rfl rfl

/-! X9_rent -/
set_option maxRecDepth 100000 in
set_option maxHeartbeats 4000000 in
theorem c_X9_rent (F : Nat) (a0 : Int32)  (M : gM) : gCt yX9_rent cX9_rent 2 (some .int) 6 141 (fun ad K V => [.ref (ad 95), .int a0]) rvW rMW M (f_X9_rent F a0 M) := by
  refine g_met (y := yX9_rent) (by decide +kernel) (fun _ _ _ => Nat.le_of_ble_eq_true rfl) (fun X C => ?_)
  show G X (gQm X rvW rMW) 2 M [(0, .ref (xad X 95)), (1, .int a0)] [] 0 (f_X9_rent F a0 M)
  unfold f_X9_rent
  refine g_iload_n (pc := 0) C dX9_rent_0 rfl 1 rfl ?_
  refine g_i2l (pc := 1) C dX9_rent_1 ?_
  refine g_lconst (pc := 2) (v := 0) C dX9_rent_2 rfl ?_
  refine g_ldc2 (pc := 3) C wl_X9_243 dX9_rent_3 ?_
  refine g_callR (pc := 6) C (g_runS (stk := []) C (c_X9_in a0.toInt64 (0 : Int64) (3 : Int64) M) rfl rfl rfl wC_X9_in wS_X9_in wi_X9 wm_X9_89 hy_X9_in (by decide) (Nat.le_of_ble_eq_true rfl) dX9_rent_6) (fun r1 => ?_)
  refine g_if_ne (pc := 9) (tgt := 15) C dX9_rent_9 (by decide) ?_ ?_
  · refine g_aload_n (pc := 15) C dX9_rent_15 rfl 0 rfl ?_
    refine g_iconst (pc := 16) C dX9_rent_16 ic_iconst_0 ?_
    refine g_callV (pc := 17) C (g_runV (stk := []) C (c_X9_findAllSets F (0 : Int32) M) rfl rfl rfl kd_95 rfl wC_X9_findAllSets wI_X9_findAllSets wV_X9_findAllSets wi_X9 wm_X9_217 hy_X9_findAllSets (by decide) (Nat.le_of_ble_eq_true rfl) dX9_rent_17) (fun r2 => ?_)
    refine g_aload_n (pc := 20) C dX9_rent_20 rfl 0 rfl ?_
    refine g_iconst (pc := 21) C dX9_rent_21 ic_iconst_0 ?_
    refine g_iload_n (pc := 22) C dX9_rent_22 rfl 1 rfl ?_
    refine g_callW (pc := 23) C (g_runV (stk := []) C (c_X9_rentIn F (0 : Int32) a0 r2) rfl rfl rfl kd_95 rfl wC_X9_rentIn wI_X9_rentIn wV_X9_rentIn wi_X9 wm_X9_245 hy_X9_rentIn (by decide) (Nat.le_of_ble_eq_true rfl) dX9_rent_23) (fun r3 => ?_)
    exact g_iret (pc := 26) C dX9_rent_26 rfl rfl
  · refine g_ldc (pc := 12) C wk_X9_93 dX9_rent_12 ?_
    exact g_iret (pc := 14) C dX9_rent_14 rfl rfl

/-! X9_scene -/
set_option maxRecDepth 100000 in
set_option maxHeartbeats 4000000 in
theorem c_X9_scene (a0 : Int32) (a1 : Int32)  (M : gM) : gCt yX9_scene cX9_scene 3 (some .int) 2 46 (fun ad K V => [.ref (ad 95), .int a0, .int a1]) rvR (rMR M) M (f_X9_scene a0 a1 M) := by
  refine g_met (y := yX9_scene) (by decide +kernel) (fun _ _ _ => Nat.le_of_ble_eq_true rfl) (fun X C => ?_)
  show G X (gQm X rvR (rMR M)) 3 M [(0, .ref (xad X 95)), (1, .int a0), (2, .int a1)] [] 0 (f_X9_scene a0 a1 M)
  unfold f_X9_scene
  refine g_aload_n (pc := 0) C dX9_scene_0 rfl 0 rfl ?_
  refine g_iload_n (pc := 1) C dX9_scene_1 rfl 1 rfl ?_
  refine g_callR (pc := 2) C (g_runV (stk := []) C (c_X9_isScene a0 M) rfl rfl rfl kd_95 rfl wC_X9_isScene wI_X9_isScene wV_X9_isScene wi_X9 wm_X9_189 hy_X9_isScene (by decide) (Nat.le_of_ble_eq_true rfl) dX9_scene_2) (fun r1 => ?_)
  refine g_if_ne (pc := 5) (tgt := 11) C dX9_scene_5 (by decide) ?_ ?_
  · refine g_iload_n (pc := 11) C dX9_scene_11 rfl 2 rfl ?_
    refine g_if_ne (pc := 12) (tgt := 24) C dX9_scene_12 (by decide) ?_ ?_
    · refine g_iload_n (pc := 24) C dX9_scene_24 rfl 2 rfl ?_
      refine g_iconst (pc := 25) C dX9_scene_25 ic_iconst_1 ?_
      refine g_icmp_ne (pc := 26) (tgt := 38) C dX9_scene_26 (by decide) ?_ ?_
      · refine g_iload_n (pc := 38) C dX9_scene_38 rfl 2 rfl ?_
        refine g_iconst (pc := 39) C dX9_scene_39 ic_iconst_2 ?_
        refine g_icmp_ne (pc := 40) (tgt := 52) C dX9_scene_40 (by decide) ?_ ?_
        · refine g_ldc (pc := 52) C wk_X9_93 dX9_scene_52 ?_
          exact g_iret (pc := 54) C dX9_scene_54 rfl rfl
        · refine g_aload_n (pc := 43) C dX9_scene_43 rfl 0 rfl ?_
          refine gf_X9_44 (pc := 44) (u := 107) C kd_95 rfl dX9_scene_44 ?_
          refine g_iload_n (pc := 47) C dX9_scene_47 rfl 1 rfl ?_
          refine g_iald (pc := 48) C kd_107 dX9_scene_48 ?_
          refine g_goto (pc := 49) (tgt := 54) C dX9_scene_49 (by decide) ?_
          exact g_iret (pc := 54) C dX9_scene_54 rfl rfl
      · refine g_aload_n (pc := 29) C dX9_scene_29 rfl 0 rfl ?_
        refine gf_X9_41 (pc := 30) (u := 106) C kd_95 rfl dX9_scene_30 ?_
        refine g_iload_n (pc := 33) C dX9_scene_33 rfl 1 rfl ?_
        refine g_iald (pc := 34) C kd_106 dX9_scene_34 ?_
        refine g_goto (pc := 35) (tgt := 54) C dX9_scene_35 (by decide) ?_
        exact g_iret (pc := 54) C dX9_scene_54 rfl rfl
    · refine g_aload_n (pc := 15) C dX9_scene_15 rfl 0 rfl ?_
      refine gf_X9_38 (pc := 16) (u := 105) C kd_95 rfl dX9_scene_16 ?_
      refine g_iload_n (pc := 19) C dX9_scene_19 rfl 1 rfl ?_
      refine g_iald (pc := 20) C kd_105 dX9_scene_20 ?_
      refine g_goto (pc := 21) (tgt := 54) C dX9_scene_21 (by decide) ?_
      exact g_iret (pc := 54) C dX9_scene_54 rfl rfl
  · refine g_ldc (pc := 8) C wk_X9_188 dX9_scene_8 ?_
    exact g_iret (pc := 10) C dX9_scene_10 rfl rfl

/-! X9_see -/
set_option maxRecDepth 100000 in
set_option maxHeartbeats 4000000 in
theorem c_X9_see (a0 : Int32) (a1 : Int32)  (M : gM) : gCt yX9_see cX9_see 3 (some .int) 1 25 (fun ad K V => [.ref (ad 95), .int a0, .int a1]) rvW rMW M (f_X9_see a0 a1 M) := by
  refine g_met (y := yX9_see) (by decide +kernel) (fun _ _ _ => Nat.le_of_ble_eq_true rfl) (fun X C => ?_)
  show G X (gQm X rvW rMW) 3 M [(0, .ref (xad X 95)), (1, .int a0), (2, .int a1)] [] 0 (f_X9_see a0 a1 M)
  unfold f_X9_see
  refine g_iload_n (pc := 0) C dX9_see_0 rfl 1 rfl ?_
  refine g_i2l (pc := 1) C dX9_see_1 ?_
  refine g_lconst (pc := 2) (v := 0) C dX9_see_2 rfl ?_
  refine g_ldc2 (pc := 3) C wl_X9_251 dX9_see_3 ?_
  refine g_callR (pc := 6) C (g_runS (stk := []) C (c_X9_in a0.toInt64 (0 : Int64) (11 : Int64) M) rfl rfl rfl wC_X9_in wS_X9_in wi_X9 wm_X9_89 hy_X9_in (by decide) (Nat.le_of_ble_eq_true rfl) dX9_see_6) (fun r1 => ?_)
  refine g_if_eq (pc := 9) (tgt := 24) C dX9_see_9 (by decide) ?_ ?_
  · refine g_ldc (pc := 24) C wk_X9_93 dX9_see_24 ?_
    exact g_iret (pc := 26) C dX9_see_26 rfl rfl
  · refine g_iload_n (pc := 12) C dX9_see_12 rfl 2 rfl ?_
    refine g_i2l (pc := 13) C dX9_see_13 ?_
    refine g_lconst (pc := 14) (v := 0) C dX9_see_14 rfl ?_
    refine g_ldc2 (pc := 15) C wl_X9_253 dX9_see_15 ?_
    refine g_callR (pc := 18) C (g_runS (stk := []) C (c_X9_in a1.toInt64 (0 : Int64) (27 : Int64) M) rfl rfl rfl wC_X9_in wS_X9_in wi_X9 wm_X9_89 hy_X9_in (by decide) (Nat.le_of_ble_eq_true rfl) dX9_see_18) (fun r2 => ?_)
    refine g_if_ne (pc := 21) (tgt := 27) C dX9_see_21 (by decide) ?_ ?_
    · refine g_aload_n (pc := 27) C dX9_see_27 rfl 0 rfl ?_
      refine gf_X9_156 (pc := 28) C kd_95 dX9_see_28 ?_
      refine g_bipush (pc := 31) C dX9_see_31 ic_bipush_20 ?_
      refine g_icmp_ne (pc := 33) (tgt := 39) C dX9_see_33 (by decide) ?_ ?_
      · refine g_aload_n (pc := 39) C dX9_see_39 rfl 0 rfl ?_
        refine gf_X9_75 (pc := 40) (u := 116) C kd_95 rfl dX9_see_40 ?_
        refine g_aload_n (pc := 43) C dX9_see_43 rfl 0 rfl ?_
        refine gf_X9_156 (pc := 44) C kd_95 dX9_see_44 ?_
        refine g_iload_n (pc := 47) C dX9_see_47 rfl 1 rfl ?_
        refine g_iast (pc := 48) C kd_116 dX9_see_48 ?_
        refine g_ltM (fun M3 => ?_)
        refine g_aload_n (pc := 49) C dX9_see_49 rfl 0 rfl ?_
        refine gf_X9_78 (pc := 50) (u := 117) C kd_95 rfl dX9_see_50 ?_
        refine g_aload_n (pc := 53) C dX9_see_53 rfl 0 rfl ?_
        refine gf_X9_156 (pc := 54) C kd_95 dX9_see_54 ?_
        refine g_iload_n (pc := 57) C dX9_see_57 rfl 2 rfl ?_
        refine g_iast (pc := 58) C kd_117 dX9_see_58 ?_
        refine g_ltM (fun M4 => ?_)
        refine g_aload_n (pc := 59) C dX9_see_59 rfl 0 rfl ?_
        refine g_dup (pc := 60) C dX9_see_60 rfl ?_
        refine gf_X9_156 (pc := 61) C kd_95 dX9_see_61 ?_
        refine g_iconst (pc := 64) C dX9_see_64 ic_iconst_1 ?_
        refine g_iadd (pc := 65) C dX9_see_65 ?_
        refine gp_X9_156 (pc := 66) C kd_95 dX9_see_66 ?_
        refine g_ltM (fun M5 => ?_)
        refine g_aload_n (pc := 69) C dX9_see_69 rfl 0 rfl ?_
        refine gf_X9_156 (pc := 70) C kd_95 dX9_see_70 ?_
        exact g_iret (pc := 73) C dX9_see_73 rfl rfl
      · refine g_ldc (pc := 36) C wk_X9_97 dX9_see_36 ?_
        exact g_iret (pc := 38) C dX9_see_38 rfl rfl
    · refine g_ldc (pc := 24) C wk_X9_93 dX9_see_24 ?_
      exact g_iret (pc := 26) C dX9_see_26 rfl rfl

/-! X9_seed -/
set_option maxRecDepth 100000 in
set_option maxHeartbeats 4000000 in
theorem c_X9_seed (a0 : Int32)  (M : gM) : gCt yX9_seed cX9_seed 3 (some .int) 0 0 (fun ad K V => [.ref (ad 95), .int a0]) rvW rMW M (f_X9_seed a0 M) := by
  refine g_met (y := yX9_seed) (by decide +kernel) (fun _ _ _ => Nat.le_of_ble_eq_true rfl) (fun X C => ?_)
  show G X (gQm X rvW rMW) 3 M [(0, .ref (xad X 95)), (1, .int a0)] [] 0 (f_X9_seed a0 M)
  unfold f_X9_seed
  refine g_iload_n (pc := 0) C dX9_seed_0 rfl 1 rfl ?_
  refine g_if_ge (pc := 1) (tgt := 7) C dX9_seed_1 (by decide) ?_ ?_
  · refine g_aload_n (pc := 7) C dX9_seed_7 rfl 0 rfl ?_
    refine gf_X9_7 (pc := 8) (u := 96) C kd_95 rfl dX9_seed_8 ?_
    refine g_bipush (pc := 11) C dX9_seed_11 ic_bipush_33 ?_
    refine g_iald (pc := 13) C kd_96 dX9_seed_13 ?_
    refine g_lt (fun v1 => ?_)
    refine g_istore_n (pc := 14) (lv' := [(2, .int v1), (0, .ref (xad X 95)), (1, .int a0)]) C dX9_seed_14 rfl (by decide) rfl ?_
    refine g_aload_n (pc := 15) C dX9_seed_15 rfl 1 rfl ?_
    refine gf_X9_7 (pc := 16) (u := 96) C kd_95 rfl dX9_seed_16 ?_
    refine g_bipush (pc := 19) C dX9_seed_19 ic_bipush_33 ?_
    refine g_iload_n (pc := 21) C dX9_seed_21 rfl 2 rfl ?_
    refine g_iast (pc := 22) C kd_96 dX9_seed_22 ?_
    refine g_ltM (fun M2 => ?_)
    refine g_iload_n (pc := 23) C dX9_seed_23 rfl 0 rfl ?_
    exact g_iret (pc := 24) C dX9_seed_24 rfl rfl
  · refine g_ldc (pc := 4) C wk_X9_93 dX9_seed_4 ?_
    exact g_iret (pc := 6) C dX9_seed_6 rfl rfl

