/-! X9_findWorn -/
set_option maxRecDepth 100000 in
set_option maxHeartbeats 4000000 in
theorem g_X9_findWorn_b122 {X : gX} (C : gC X cX9_findWorn RX9 7 none 2 45) (F : Nat) (a0 : Int32) (k4 : Int32 → Int32 → gM → Option gM) (k16 : Int32 → Int32 → Int32 → Int32 → gM → Option gM) (hk4 : ∀ (x2 : Int32) (x3 : Int32) (M : gM), G X (gQm X rvV rMV) 7 M [(0, .ref (xad X 95)), (1, .int a0), (2, .int x2), (3, .int x3)] [] 4 (k4 x2 x3 M)) (hk16 : ∀ (x2 : Int32) (x3 : Int32) (x4 : Int32) (x5 : Int32) (M : gM), G X (gQm X rvV rMV) 7 M [(0, .ref (xad X 95)), (1, .int a0), (2, .int x2), (3, .int x3), (4, .int x4), (5, .int x5)] [] 16 (k16 x2 x3 x4 x5 M)) (x2 : Int32) (x3 : Int32) (x4 : Int32) (s0 : Int32) (M : gM) : G X (gQm X rvV rMV) 7 M [(0, .ref (xad X 95)), (1, .int a0), (2, .int x2), (3, .int x3), (4, .int x4)] [.int s0] 122 (f_X9_findWorn_b122 F a0 k4 k16 x2 x3 x4 s0 M) := by
  unfold f_X9_findWorn_b122
  refine g_istore (pc := 122) (lv' := [(5, .int s0), (0, .ref (xad X 95)), (1, .int a0), (2, .int x2), (3, .int x3), (4, .int x4)]) C dX9_findWorn_122 (by decide) rfl ?_
  refine g_iload (pc := 124) C dX9_findWorn_124 5 rfl ?_
  refine g_iload (pc := 126) C dX9_findWorn_126 0 rfl ?_
  refine g_if_ne (pc := 128) (tgt := 135) C dX9_findWorn_128 (by decide) ?_ ?_
  · refine g_iconst (pc := 135) C dX9_findWorn_135 ic_iconst_0 ?_
    refine g_callR (pc := 136) C (g_runS (stk := [.int x4]) C (c_X9_one (0 : Int32) M) rfl rfl rfl wC_X9_one wS_X9_one wi_X9 wm_X9_224 hy_X9_one (by decide) (Nat.le_of_ble_eq_true rfl) dX9_findWorn_136) (fun r2 => ?_)
    refine g_iadd (pc := 139) C dX9_findWorn_139 ?_
    refine g_lt (fun v3 => ?_)
    refine g_istore (pc := 140) (lv' := [(4, .int v3), (5, .int s0), (0, .ref (xad X 95)), (1, .int a0), (2, .int x2), (3, .int x3)]) C dX9_findWorn_140 (by decide) rfl ?_
    refine g_goto (pc := 142) (tgt := 16) C dX9_findWorn_142 (by decide) ?_
    refine g_sub (lv' := [(0, .ref (xad X 95)), (1, .int a0), (2, .int x2), (3, .int x3), (4, .int v3), (5, .int s0)]) [2, 3, 4, 5, 0, 1] rfl ?_
    exact hk16 x2 x3 v3 s0 M
  · refine g_iconst (pc := 131) C dX9_findWorn_131 ic_iconst_1 ?_
    refine g_goto (pc := 132) (tgt := 136) C dX9_findWorn_132 (by decide) ?_
    refine g_callR (pc := 136) C (g_runS (stk := [.int x4]) C (c_X9_one (1 : Int32) M) rfl rfl rfl wC_X9_one wS_X9_one wi_X9 wm_X9_224 hy_X9_one (by decide) (Nat.le_of_ble_eq_true rfl) dX9_findWorn_136) (fun r4 => ?_)
    refine g_iadd (pc := 139) C dX9_findWorn_139 ?_
    refine g_lt (fun v5 => ?_)
    refine g_istore (pc := 140) (lv' := [(4, .int v5), (5, .int s0), (0, .ref (xad X 95)), (1, .int a0), (2, .int x2), (3, .int x3)]) C dX9_findWorn_140 (by decide) rfl ?_
    refine g_goto (pc := 142) (tgt := 16) C dX9_findWorn_142 (by decide) ?_
    refine g_sub (lv' := [(0, .ref (xad X 95)), (1, .int a0), (2, .int x2), (3, .int x3), (4, .int v5), (5, .int s0)]) [2, 3, 4, 5, 0, 1] rfl ?_
    exact hk16 x2 x3 v5 s0 M

set_option maxRecDepth 100000 in
set_option maxHeartbeats 4000000 in
theorem g_X9_findWorn_b121 {X : gX} (C : gC X cX9_findWorn RX9 7 none 2 45) (F : Nat) (a0 : Int32) (k4 : Int32 → Int32 → gM → Option gM) (k16 : Int32 → Int32 → Int32 → Int32 → gM → Option gM) (hk4 : ∀ (x2 : Int32) (x3 : Int32) (M : gM), G X (gQm X rvV rMV) 7 M [(0, .ref (xad X 95)), (1, .int a0), (2, .int x2), (3, .int x3)] [] 4 (k4 x2 x3 M)) (hk16 : ∀ (x2 : Int32) (x3 : Int32) (x4 : Int32) (x5 : Int32) (M : gM), G X (gQm X rvV rMV) 7 M [(0, .ref (xad X 95)), (1, .int a0), (2, .int x2), (3, .int x3), (4, .int x4), (5, .int x5)] [] 16 (k16 x2 x3 x4 x5 M)) (x2 : Int32) (x3 : Int32) (x4 : Int32) (M : gM) : G X (gQm X rvV rMV) 7 M [(0, .ref (xad X 95)), (1, .int a0), (2, .int x2), (3, .int x3), (4, .int x4)] [] 121 (f_X9_findWorn_b121 F a0 k4 k16 x2 x3 x4 M) := by
  unfold f_X9_findWorn_b121
  refine g_iconst (pc := 121) C dX9_findWorn_121 ic_iconst_0 ?_
  exact g_X9_findWorn_b122 C F a0 k4 k16 hk4 hk16 x2 x3 x4 (0 : Int32) M

set_option maxRecDepth 100000 in
set_option maxHeartbeats 4000000 in
theorem g_X9_findWorn_b76 {X : gX} (C : gC X cX9_findWorn RX9 7 none 2 45) (F : Nat) (a0 : Int32) (k4 : Int32 → Int32 → gM → Option gM) (k16 : Int32 → Int32 → Int32 → Int32 → gM → Option gM) (hk4 : ∀ (x2 : Int32) (x3 : Int32) (M : gM), G X (gQm X rvV rMV) 7 M [(0, .ref (xad X 95)), (1, .int a0), (2, .int x2), (3, .int x3)] [] 4 (k4 x2 x3 M)) (hk16 : ∀ (x2 : Int32) (x3 : Int32) (x4 : Int32) (x5 : Int32) (M : gM), G X (gQm X rvV rMV) 7 M [(0, .ref (xad X 95)), (1, .int a0), (2, .int x2), (3, .int x3), (4, .int x4), (5, .int x5)] [] 16 (k16 x2 x3 x4 x5 M)) (x2 : Int32) (x3 : Int32) (x4 : Int32) (x6 : Int32) (M : gM) : G X (gQm X rvV rMV) 7 M [(0, .ref (xad X 95)), (1, .int a0), (2, .int x2), (3, .int x3), (4, .int x4), (6, .int x6)] [] 76 (f_X9_findWorn_b76 F a0 k4 k16 x2 x3 x4 x6 M) := by
  unfold f_X9_findWorn_b76
  refine g_aload_n (pc := 76) C dX9_findWorn_76 rfl 0 rfl ?_
  refine g_iload_n (pc := 77) C dX9_findWorn_77 rfl 1 rfl ?_
  refine g_bipush (pc := 78) C dX9_findWorn_78 ic_bipush_10 ?_
  refine g_iadd (pc := 80) C dX9_findWorn_80 ?_
  refine g_iload (pc := 81) C dX9_findWorn_81 4 rfl ?_
  refine g_callR (pc := 83) C (g_runV (stk := []) C (c_X9_sumOf F (a0 + (10 : Int32)) x4 M) rfl rfl rfl kd_95 rfl wC_X9_sumOf wI_X9_sumOf wV_X9_sumOf wi_X9 wm_X9_171 hy_X9_sumOf (by decide) (Nat.le_of_ble_eq_true rfl) dX9_findWorn_83) (fun r6 => ?_)
  refine g_aload_n (pc := 86) C dX9_findWorn_86 rfl 0 rfl ?_
  refine gf_X9_63 (pc := 87) (u := 112) C kd_95 rfl dX9_findWorn_87 ?_
  refine g_sipush (pc := 90) C dX9_findWorn_90 ic_sipush_1024 ?_
  refine g_iload_n (pc := 93) C dX9_findWorn_93 rfl 3 rfl ?_
  refine g_iconst (pc := 94) C dX9_findWorn_94 ic_iconst_1 ?_
  refine g_iadd (pc := 95) C dX9_findWorn_95 ?_
  refine g_imul (pc := 96) C dX9_findWorn_96 ?_
  refine g_iload (pc := 97) C dX9_findWorn_97 5 rfl ?_
  refine g_iadd (pc := 99) C dX9_findWorn_99 ?_
  refine g_iald (pc := 100) C kd_112 dX9_findWorn_100 ?_
  refine g_iadd (pc := 101) C dX9_findWorn_101 ?_
  refine g_aload_n (pc := 102) C dX9_findWorn_102 rfl 0 rfl ?_
  refine gf_X9_63 (pc := 103) (u := 112) C kd_95 rfl dX9_findWorn_103 ?_
  refine g_sipush (pc := 106) C dX9_findWorn_106 ic_sipush_1024 ?_
  refine g_iload_n (pc := 109) C dX9_findWorn_109 rfl 3 rfl ?_
  refine g_imul (pc := 110) C dX9_findWorn_110 ?_
  refine g_iload_n (pc := 111) C dX9_findWorn_111 rfl 2 rfl ?_
  refine g_iadd (pc := 112) C dX9_findWorn_112 ?_
  refine g_iald (pc := 113) C kd_112 dX9_findWorn_113 ?_
  refine g_icmp_ne (pc := 114) (tgt := 121) C dX9_findWorn_114 (by decide) ?_ ?_
  · refine g_sub (lv' := [(0, .ref (xad X 95)), (1, .int a0), (2, .int x2), (3, .int x3), (4, .int x4)]) [0, 1, 2, 3, 4] rfl ?_
    exact g_X9_findWorn_b121 C F a0 k4 k16 hk4 hk16 x2 x3 x4 M
  · refine g_iconst (pc := 117) C dX9_findWorn_117 ic_iconst_1 ?_
    refine g_goto (pc := 118) (tgt := 122) C dX9_findWorn_118 (by decide) ?_
    refine g_sub (lv' := [(0, .ref (xad X 95)), (1, .int a0), (2, .int x2), (3, .int x3), (4, .int x4)]) [0, 1, 2, 3, 4] rfl ?_
    exact g_X9_findWorn_b122 C F a0 k4 k16 hk4 hk16 x2 x3 x4 (1 : Int32) M

set_option maxRecDepth 100000 in
set_option maxHeartbeats 4000000 in
theorem g_X9_findWorn_b39 {X : gX} (C : gC X cX9_findWorn RX9 7 none 2 45) (F : Nat) (a0 : Int32) (k4 : Int32 → Int32 → gM → Option gM) (k16 : Int32 → Int32 → Int32 → Int32 → gM → Option gM) (hk4 : ∀ (x2 : Int32) (x3 : Int32) (M : gM), G X (gQm X rvV rMV) 7 M [(0, .ref (xad X 95)), (1, .int a0), (2, .int x2), (3, .int x3)] [] 4 (k4 x2 x3 M)) (hk16 : ∀ (x2 : Int32) (x3 : Int32) (x4 : Int32) (x5 : Int32) (M : gM), G X (gQm X rvV rMV) 7 M [(0, .ref (xad X 95)), (1, .int a0), (2, .int x2), (3, .int x3), (4, .int x4), (5, .int x5)] [] 16 (k16 x2 x3 x4 x5 M)) (x2 : Int32) (x3 : Int32) (x4 : Int32) (s0 : Int32) (M : gM) : G X (gQm X rvV rMV) 7 M [(0, .ref (xad X 95)), (1, .int a0), (2, .int x2), (3, .int x3), (4, .int x4)] [.int s0] 39 (f_X9_findWorn_b39 F a0 k4 k16 x2 x3 x4 s0 M) := by
  unfold f_X9_findWorn_b39
  refine g_istore (pc := 39) (lv' := [(6, .int s0), (0, .ref (xad X 95)), (1, .int a0), (2, .int x2), (3, .int x3), (4, .int x4)]) C dX9_findWorn_39 (by decide) rfl ?_
  refine g_aload_n (pc := 41) C dX9_findWorn_41 rfl 1 rfl ?_
  refine gf_X9_60 (pc := 42) (u := 111) C kd_95 rfl dX9_findWorn_42 ?_
  refine g_sipush (pc := 45) C dX9_findWorn_45 ic_sipush_1024 ?_
  refine g_iload_n (pc := 48) C dX9_findWorn_48 rfl 4 rfl ?_
  refine g_imul (pc := 49) C dX9_findWorn_49 ?_
  refine g_iload (pc := 50) C dX9_findWorn_50 5 rfl ?_
  refine g_iadd (pc := 52) C dX9_findWorn_52 ?_
  refine g_zald (pc := 53) C kd_111 dX9_findWorn_53 ?_
  refine g_if_eq (pc := 54) (tgt := 121) C dX9_findWorn_54 (by decide) ?_ ?_
  · refine g_sub (lv' := [(0, .ref (xad X 95)), (1, .int a0), (2, .int x2), (3, .int x3), (4, .int x4)]) [1, 2, 3, 4, 5] rfl ?_
    exact g_X9_findWorn_b121 C F a0 k4 k16 hk4 hk16 x2 x3 x4 M
  · refine g_aload_n (pc := 57) C dX9_findWorn_57 rfl 1 rfl ?_
    refine gf_X9_7 (pc := 58) (u := 96) C kd_95 rfl dX9_findWorn_58 ?_
    refine g_iload_n (pc := 61) C dX9_findWorn_61 rfl 2 rfl ?_
    refine g_bipush (pc := 62) C dX9_findWorn_62 ic_bipush_31 ?_
    refine g_iadd (pc := 64) C dX9_findWorn_64 ?_
    refine g_iald (pc := 65) C kd_96 dX9_findWorn_65 ?_
    refine g_if_eq (pc := 66) (tgt := 76) C dX9_findWorn_66 (by decide) ?_ ?_
    · refine g_sub (lv' := [(0, .ref (xad X 95)), (1, .int a0), (2, .int x2), (3, .int x3), (4, .int x4), (6, .int s0)]) [1, 2, 3, 4, 5, 0] rfl ?_
      exact g_X9_findWorn_b76 C F a0 k4 k16 hk4 hk16 x2 x3 x4 s0 M
    · refine g_iload (pc := 69) C dX9_findWorn_69 5 rfl ?_
      refine g_iload_n (pc := 71) C dX9_findWorn_71 rfl 3 rfl ?_
      refine g_iand (pc := 72) C dX9_findWorn_72 ?_
      refine g_if_ne (pc := 73) (tgt := 121) C dX9_findWorn_73 (by decide) ?_ ?_
      · refine g_sub (lv' := [(0, .ref (xad X 95)), (1, .int a0), (2, .int x2), (3, .int x3), (4, .int x4)]) [1, 2, 3, 4, 5] rfl ?_
        exact g_X9_findWorn_b121 C F a0 k4 k16 hk4 hk16 x2 x3 x4 M
      · refine g_sub (lv' := [(0, .ref (xad X 95)), (1, .int a0), (2, .int x2), (3, .int x3), (4, .int x4), (6, .int s0)]) [1, 2, 3, 4, 5, 0] rfl ?_
        exact g_X9_findWorn_b76 C F a0 k4 k16 hk4 hk16 x2 x3 x4 s0 M

set_option maxRecDepth 100000 in
set_option maxHeartbeats 4000000 in
theorem g_X9_findWorn_h16_b {X : gX} (C : gC X cX9_findWorn RX9 7 none 2 45) (F : Nat) (a0 : Int32) (k4 : Int32 → Int32 → gM → Option gM) (hk4 : ∀ (x2 : Int32) (x3 : Int32) (M : gM), G X (gQm X rvV rMV) 7 M [(0, .ref (xad X 95)), (1, .int a0), (2, .int x2), (3, .int x3)] [] 4 (k4 x2 x3 M)) (k16 : Int32 → Int32 → Int32 → Int32 → gM → Option gM) (hk16 : ∀ (x2 : Int32) (x3 : Int32) (x4 : Int32) (x5 : Int32) (M : gM), G X (gQm X rvV rMV) 7 M [(0, .ref (xad X 95)), (1, .int a0), (2, .int x2), (3, .int x3), (4, .int x4), (5, .int x5)] [] 16 (k16 x2 x3 x4 x5 M)) (x2 : Int32) (x3 : Int32) (x4 : Int32) (x5 : Int32) (M : gM) : G X (gQm X rvV rMV) 7 M [(0, .ref (xad X 95)), (1, .int a0), (2, .int x2), (3, .int x3), (4, .int x4), (5, .int x5)] [] 16 (f_X9_findWorn_h16_b F a0 k4 k16 x2 x3 x4 x5 M) := by
  unfold f_X9_findWorn_h16_b
  refine g_iload (pc := 16) C dX9_findWorn_16 5 rfl ?_
  refine g_if_ne (pc := 18) (tgt := 145) C dX9_findWorn_18 (by decide) ?_ ?_
  · refine g_aload_n (pc := 145) C dX9_findWorn_145 rfl 0 rfl ?_
    refine gf_X9_72 (pc := 146) (u := 115) C kd_95 rfl dX9_findWorn_146 ?_
    refine g_iload_n (pc := 149) C dX9_findWorn_149 rfl 3 rfl ?_
    refine g_iload (pc := 150) C dX9_findWorn_150 4 rfl ?_
    refine g_iast (pc := 152) C kd_115 dX9_findWorn_152 ?_
    refine g_ltM (fun M1 => ?_)
    refine g_aload_n (pc := 153) C dX9_findWorn_153 rfl 0 rfl ?_
    refine gf_X9_7 (pc := 154) (u := 96) C kd_95 rfl dX9_findWorn_154 ?_
    refine g_iload_n (pc := 157) C dX9_findWorn_157 rfl 1 rfl ?_
    refine g_bipush (pc := 158) C dX9_findWorn_158 ic_bipush_31 ?_
    refine g_iadd (pc := 160) C dX9_findWorn_160 ?_
    refine g_iald (pc := 161) C kd_96 dX9_findWorn_161 ?_
    refine g_if_ne (pc := 162) (tgt := 169) C dX9_findWorn_162 (by decide) ?_ ?_
    · refine g_iload (pc := 169) C dX9_findWorn_169 4 rfl ?_
      refine g_istore_n (pc := 171) (lv' := [(2, .int x4), (0, .ref (xad X 95)), (1, .int a0), (3, .int x3), (4, .int x4), (5, .int x5)]) C dX9_findWorn_171 rfl (by decide) rfl ?_
      refine g_iinc (pc := 172) (j := 3) (lv' := [(3, .int (x3 + (1 : Int32))), (2, .int x4), (0, .ref (xad X 95)), (1, .int a0), (4, .int x4), (5, .int x5)]) C dX9_findWorn_172 rfl (ii_1 _) (by decide) rfl ?_
      refine g_goto (pc := 175) (tgt := 4) C dX9_findWorn_175 (by decide) ?_
      refine g_sub (lv' := [(0, .ref (xad X 95)), (1, .int a0), (2, .int x4), (3, .int (x3 + (1 : Int32)))]) [2, 3, 1, 0] rfl ?_
      exact hk4 x4 (x3 + (1 : Int32)) M1
    · refine g_iconst (pc := 165) C dX9_findWorn_165 ic_iconst_0 ?_
      refine g_goto (pc := 166) (tgt := 171) C dX9_findWorn_166 (by decide) ?_
      refine g_istore_n (pc := 171) (lv' := [(2, .int (0 : Int32)), (0, .ref (xad X 95)), (1, .int a0), (3, .int x3), (4, .int x4), (5, .int x5)]) C dX9_findWorn_171 rfl (by decide) rfl ?_
      refine g_iinc (pc := 172) (j := 3) (lv' := [(3, .int (x3 + (1 : Int32))), (2, .int (0 : Int32)), (0, .ref (xad X 95)), (1, .int a0), (4, .int x4), (5, .int x5)]) C dX9_findWorn_172 rfl (ii_1 _) (by decide) rfl ?_
      refine g_goto (pc := 175) (tgt := 4) C dX9_findWorn_175 (by decide) ?_
      refine g_sub (lv' := [(0, .ref (xad X 95)), (1, .int a0), (2, .int (0 : Int32)), (3, .int (x3 + (1 : Int32)))]) [2, 3, 1, 0] rfl ?_
      exact hk4 (0 : Int32) (x3 + (1 : Int32)) M1
  · refine g_aload_n (pc := 21) C dX9_findWorn_21 rfl 0 rfl ?_
    refine gf_X9_7 (pc := 22) (u := 96) C kd_95 rfl dX9_findWorn_22 ?_
    refine g_iload_n (pc := 25) C dX9_findWorn_25 rfl 1 rfl ?_
    refine g_bipush (pc := 26) C dX9_findWorn_26 ic_bipush_31 ?_
    refine g_iadd (pc := 28) C dX9_findWorn_28 ?_
    refine g_iald (pc := 29) C kd_96 dX9_findWorn_29 ?_
    refine g_if_ne (pc := 30) (tgt := 37) C dX9_findWorn_30 (by decide) ?_ ?_
    · refine g_iload (pc := 37) C dX9_findWorn_37 4 rfl ?_
      refine g_sub (lv' := [(0, .ref (xad X 95)), (1, .int a0), (2, .int x2), (3, .int x3), (4, .int x4)]) [0, 1, 2, 3, 4] rfl ?_
      exact g_X9_findWorn_b39 C F a0 k4 k16 hk4 hk16 x2 x3 x4 x4 M
    · refine g_iconst (pc := 33) C dX9_findWorn_33 ic_iconst_0 ?_
      refine g_goto (pc := 34) (tgt := 39) C dX9_findWorn_34 (by decide) ?_
      refine g_sub (lv' := [(0, .ref (xad X 95)), (1, .int a0), (2, .int x2), (3, .int x3), (4, .int x4)]) [0, 1, 2, 3, 4] rfl ?_
      exact g_X9_findWorn_b39 C F a0 k4 k16 hk4 hk16 x2 x3 x4 (0 : Int32) M

theorem g_X9_findWorn_h16 {X : gX} (C : gC X cX9_findWorn RX9 7 none 2 45) (F : Nat) (a0 : Int32) (k4 : Int32 → Int32 → gM → Option gM) (hk4 : ∀ (x2 : Int32) (x3 : Int32) (M : gM), G X (gQm X rvV rMV) 7 M [(0, .ref (xad X 95)), (1, .int a0), (2, .int x2), (3, .int x3)] [] 4 (k4 x2 x3 M)) : ∀ (n : Nat) (x2 : Int32) (x3 : Int32) (x4 : Int32) (x5 : Int32) (M : gM), G X (gQm X rvV rMV) 7 M [(0, .ref (xad X 95)), (1, .int a0), (2, .int x2), (3, .int x3), (4, .int x4), (5, .int x5)] [] 16 (f_X9_findWorn_h16 F a0 k4 n x2 x3 x4 x5 M) := by
  intro n
  induction n with
  | zero =>
    intro x2 x3 x4 x5 M r hr
    have hr2 : (none : Option gM) = some r := hr
    cases hr2
  | succ n ih =>
    intro x2 x3 x4 x5 M
    exact g_X9_findWorn_h16_b C F a0 k4 hk4 _ ih x2 x3 x4 x5 M
set_option maxRecDepth 100000 in
set_option maxHeartbeats 4000000 in
theorem g_X9_findWorn_h4_b {X : gX} (C : gC X cX9_findWorn RX9 7 none 2 45) (F : Nat) (a0 : Int32) (k4 : Int32 → Int32 → gM → Option gM) (hk4 : ∀ (x2 : Int32) (x3 : Int32) (M : gM), G X (gQm X rvV rMV) 7 M [(0, .ref (xad X 95)), (1, .int a0), (2, .int x2), (3, .int x3)] [] 4 (k4 x2 x3 M)) (x2 : Int32) (x3 : Int32) (M : gM) : G X (gQm X rvV rMV) 7 M [(0, .ref (xad X 95)), (1, .int a0), (2, .int x2), (3, .int x3)] [] 4 (f_X9_findWorn_h4_b F a0 k4 x2 x3 M) := by
  unfold f_X9_findWorn_h4_b
  refine g_iload_n (pc := 4) C dX9_findWorn_4 rfl 3 rfl ?_
  refine g_bipush (pc := 5) C dX9_findWorn_5 ic_bipush_12 ?_
  refine g_icmp_ge (pc := 7) (tgt := 178) C dX9_findWorn_7 (by decide) ?_ ?_
  · exact g_vret (pc := 178) C dX9_findWorn_178 rfl rfl
  · refine g_iconst (pc := 10) C dX9_findWorn_10 ic_iconst_0 ?_
    refine g_istore (pc := 11) (lv' := [(4, .int (0 : Int32)), (0, .ref (xad X 95)), (1, .int a0), (2, .int x2), (3, .int x3)]) C dX9_findWorn_11 (by decide) rfl ?_
    refine g_iconst (pc := 13) C dX9_findWorn_13 ic_iconst_0 ?_
    refine g_istore (pc := 14) (lv' := [(5, .int (0 : Int32)), (4, .int (0 : Int32)), (0, .ref (xad X 95)), (1, .int a0), (2, .int x2), (3, .int x3)]) C dX9_findWorn_14 (by decide) rfl ?_
    refine g_sub (lv' := [(0, .ref (xad X 95)), (1, .int a0), (2, .int x2), (3, .int x3), (4, .int (0 : Int32)), (5, .int (0 : Int32))]) [2, 3, 4, 5, 1, 0] rfl ?_
    exact g_X9_findWorn_h16 C F a0 k4 hk4 F x2 x3 (0 : Int32) (0 : Int32) M

theorem g_X9_findWorn_h4 {X : gX} (C : gC X cX9_findWorn RX9 7 none 2 45) (F : Nat) (a0 : Int32) : ∀ (n : Nat) (x2 : Int32) (x3 : Int32) (M : gM), G X (gQm X rvV rMV) 7 M [(0, .ref (xad X 95)), (1, .int a0), (2, .int x2), (3, .int x3)] [] 4 (f_X9_findWorn_h4 F a0 n x2 x3 M) := by
  intro n
  induction n with
  | zero =>
    intro x2 x3 M r hr
    have hr2 : (none : Option gM) = some r := hr
    cases hr2
  | succ n ih =>
    intro x2 x3 M
    exact g_X9_findWorn_h4_b C F a0 _ ih x2 x3 M
set_option maxRecDepth 100000 in
set_option maxHeartbeats 4000000 in
theorem c_X9_findWorn (F : Nat) (a0 : Int32)  (M : gM) : gCt yX9_findWorn cX9_findWorn 7 none 2 45 (fun ad K V => [.ref (ad 95), .int a0]) rvV rMV M (f_X9_findWorn F a0 M) := by
  refine g_met (y := yX9_findWorn) (by decide +kernel) (fun _ _ _ => Nat.le_of_ble_eq_true rfl) (fun X C => ?_)
  show G X (gQm X rvV rMV) 7 M [(0, .ref (xad X 95)), (1, .int a0)] [] 0 (f_X9_findWorn F a0 M)
  unfold f_X9_findWorn
  refine g_iconst (pc := 0) C dX9_findWorn_0 ic_iconst_0 ?_
  refine g_istore_n (pc := 1) (lv' := [(2, .int (0 : Int32)), (0, .ref (xad X 95)), (1, .int a0)]) C dX9_findWorn_1 rfl (by decide) rfl ?_
  refine g_iconst (pc := 2) C dX9_findWorn_2 ic_iconst_0 ?_
  refine g_istore_n (pc := 3) (lv' := [(3, .int (0 : Int32)), (2, .int (0 : Int32)), (0, .ref (xad X 95)), (1, .int a0)]) C dX9_findWorn_3 rfl (by decide) rfl ?_
  refine g_sub (lv' := [(0, .ref (xad X 95)), (1, .int a0), (2, .int (0 : Int32)), (3, .int (0 : Int32))]) [2, 3, 1, 0] rfl ?_
  exact g_X9_findWorn_h4 C F a0 F (0 : Int32) (0 : Int32) M

/-! X9_pass -/
set_option maxRecDepth 100000 in
set_option maxHeartbeats 4000000 in
theorem g_X9_pass_h79_b {X : gX} (C : gC X cX9_pass RX9 4 (some .int) 7 162) (F : Nat) (k30 : Int32 → Int32 → gM → Option (Int32 × gM)) (hk30 : ∀ (x1 : Int32) (x2 : Int32) (M : gM), G X (gQm X rvW rMW) 4 M [(0, .ref (xad X 95)), (1, .int x1), (2, .int x2)] [] 30 (k30 x1 x2 M)) (k79 : Int32 → Int32 → gM → Option (Int32 × gM)) (hk79 : ∀ (x1 : Int32) (x2 : Int32) (M : gM), G X (gQm X rvW rMW) 4 M [(0, .ref (xad X 95)), (1, .int x1), (2, .int x2)] [] 79 (k79 x1 x2 M)) (x1 : Int32) (x2 : Int32) (M : gM) : G X (gQm X rvW rMW) 4 M [(0, .ref (xad X 95)), (1, .int x1), (2, .int x2)] [] 79 (f_X9_pass_h79_b F k30 k79 x1 x2 M) := by
  unfold f_X9_pass_h79_b
  refine g_aload_n (pc := 79) C dX9_pass_79 rfl 0 rfl ?_
  refine gf_X9_7 (pc := 80) (u := 96) C kd_95 rfl dX9_pass_80 ?_
  refine g_bipush (pc := 83) C dX9_pass_83 ic_bipush_20 ?_
  refine g_iload_n (pc := 85) C dX9_pass_85 rfl 2 rfl ?_
  refine g_iadd (pc := 86) C dX9_pass_86 ?_
  refine g_iald (pc := 87) C kd_96 dX9_pass_87 ?_
  refine g_bipush (pc := 88) C dX9_pass_88 ic_bipush_10 ?_
  refine g_icmp_lt (pc := 90) (tgt := 137) C dX9_pass_90 (by decide) ?_ ?_
  · refine g_iinc (pc := 137) (j := 2) (lv' := [(2, .int (x2 + (1 : Int32))), (0, .ref (xad X 95)), (1, .int x1)]) C dX9_pass_137 rfl (ii_1 _) (by decide) rfl ?_
    refine g_goto (pc := 140) (tgt := 30) C dX9_pass_140 (by decide) ?_
    refine g_sub (lv' := [(0, .ref (xad X 95)), (1, .int x1), (2, .int (x2 + (1 : Int32)))]) [1, 2, 0] rfl ?_
    exact hk30 x1 (x2 + (1 : Int32)) M
  · refine g_aload_n (pc := 93) C dX9_pass_93 rfl 0 rfl ?_
    refine gf_X9_7 (pc := 94) (u := 96) C kd_95 rfl dX9_pass_94 ?_
    refine g_bipush (pc := 97) C dX9_pass_97 ic_bipush_20 ?_
    refine g_iload_n (pc := 99) C dX9_pass_99 rfl 2 rfl ?_
    refine g_iadd (pc := 100) C dX9_pass_100 ?_
    refine g_dup2 (pc := 101) C dX9_pass_101 rfl rfl ?_
    refine g_iald (pc := 102) C kd_96 dX9_pass_102 ?_
    refine g_bipush (pc := 103) C dX9_pass_103 ic_bipush_10 ?_
    refine g_isub (pc := 105) C dX9_pass_105 ?_
    refine g_iast (pc := 106) C kd_96 dX9_pass_106 ?_
    refine g_ltM (fun M7 => ?_)
    refine g_aload_n (pc := 107) C dX9_pass_107 rfl 0 rfl ?_
    refine gf_X9_7 (pc := 108) (u := 96) C kd_95 rfl dX9_pass_108 ?_
    refine g_iload_n (pc := 111) C dX9_pass_111 rfl 2 rfl ?_
    refine g_aload_n (pc := 112) C dX9_pass_112 rfl 0 rfl ?_
    refine gf_X9_7 (pc := 113) (u := 96) C kd_95 rfl dX9_pass_113 ?_
    refine g_iload_n (pc := 116) C dX9_pass_116 rfl 2 rfl ?_
    refine g_iald (pc := 117) C kd_96 dX9_pass_117 ?_
    refine g_if_le (pc := 118) (tgt := 132) C dX9_pass_118 (by decide) ?_ ?_
    · refine g_iconst (pc := 132) C dX9_pass_132 ic_iconst_0 ?_
      refine g_iast (pc := 133) C kd_96 dX9_pass_133 ?_
      refine g_ltM (fun M8 => ?_)
      refine g_goto (pc := 134) (tgt := 79) C dX9_pass_134 (by decide) ?_
      exact hk79 x1 x2 M8
    · refine g_aload_n (pc := 121) C dX9_pass_121 rfl 0 rfl ?_
      refine gf_X9_7 (pc := 122) (u := 96) C kd_95 rfl dX9_pass_122 ?_
      refine g_iload_n (pc := 125) C dX9_pass_125 rfl 2 rfl ?_
      refine g_iald (pc := 126) C kd_96 dX9_pass_126 ?_
      refine g_iconst (pc := 127) C dX9_pass_127 ic_iconst_1 ?_
      refine g_isub (pc := 128) C dX9_pass_128 ?_
      refine g_goto (pc := 129) (tgt := 133) C dX9_pass_129 (by decide) ?_
      refine g_iast (pc := 133) C kd_96 dX9_pass_133 ?_
      refine g_ltM (fun M9 => ?_)
      refine g_goto (pc := 134) (tgt := 79) C dX9_pass_134 (by decide) ?_
      exact hk79 x1 x2 M9

theorem g_X9_pass_h79 {X : gX} (C : gC X cX9_pass RX9 4 (some .int) 7 162) (F : Nat) (k30 : Int32 → Int32 → gM → Option (Int32 × gM)) (hk30 : ∀ (x1 : Int32) (x2 : Int32) (M : gM), G X (gQm X rvW rMW) 4 M [(0, .ref (xad X 95)), (1, .int x1), (2, .int x2)] [] 30 (k30 x1 x2 M)) : ∀ (n : Nat) (x1 : Int32) (x2 : Int32) (M : gM), G X (gQm X rvW rMW) 4 M [(0, .ref (xad X 95)), (1, .int x1), (2, .int x2)] [] 79 (f_X9_pass_h79 F k30 n x1 x2 M) := by
  intro n
  induction n with
  | zero =>
    intro x1 x2 M r hr
    have hr2 : (none : Option (Int32 × gM)) = some r := hr
    cases hr2
  | succ n ih =>
    intro x1 x2 M
    exact g_X9_pass_h79_b C F k30 hk30 _ ih x1 x2 M
set_option maxRecDepth 100000 in
set_option maxHeartbeats 4000000 in
theorem g_X9_pass_h42_b {X : gX} (C : gC X cX9_pass RX9 4 (some .int) 7 162) (F : Nat) (k30 : Int32 → Int32 → gM → Option (Int32 × gM)) (hk30 : ∀ (x1 : Int32) (x2 : Int32) (M : gM), G X (gQm X rvW rMW) 4 M [(0, .ref (xad X 95)), (1, .int x1), (2, .int x2)] [] 30 (k30 x1 x2 M)) (k42 : Int32 → Int32 → Int32 → gM → Option (Int32 × gM)) (hk42 : ∀ (x1 : Int32) (x2 : Int32) (x3 : Int32) (M : gM), G X (gQm X rvW rMW) 4 M [(0, .ref (xad X 95)), (1, .int x1), (2, .int x2), (3, .int x3)] [] 42 (k42 x1 x2 x3 M)) (x1 : Int32) (x2 : Int32) (x3 : Int32) (M : gM) : G X (gQm X rvW rMW) 4 M [(0, .ref (xad X 95)), (1, .int x1), (2, .int x2), (3, .int x3)] [] 42 (f_X9_pass_h42_b F k30 k42 x1 x2 x3 M) := by
  unfold f_X9_pass_h42_b
  refine g_iload_n (pc := 42) C dX9_pass_42 rfl 3 rfl ?_
  refine g_bipush (pc := 43) C dX9_pass_43 ic_bipush_12 ?_
  refine g_icmp_ge (pc := 45) (tgt := 79) C dX9_pass_45 (by decide) ?_ ?_
  · refine g_sub (lv' := [(0, .ref (xad X 95)), (1, .int x1), (2, .int x2)]) [0, 1, 2] rfl ?_
    exact g_X9_pass_h79 C F k30 hk30 F x1 x2 M
  · refine g_aload_n (pc := 48) C dX9_pass_48 rfl 0 rfl ?_
    refine gf_X9_7 (pc := 49) (u := 96) C kd_95 rfl dX9_pass_49 ?_
    refine g_bipush (pc := 52) C dX9_pass_52 ic_bipush_20 ?_
    refine g_iload_n (pc := 54) C dX9_pass_54 rfl 2 rfl ?_
    refine g_iadd (pc := 55) C dX9_pass_55 ?_
    refine g_dup2 (pc := 56) C dX9_pass_56 rfl rfl ?_
    refine g_iald (pc := 57) C kd_96 dX9_pass_57 ?_
    refine g_aload_n (pc := 58) C dX9_pass_58 rfl 0 rfl ?_
    refine gf_X9_72 (pc := 59) (u := 115) C kd_95 rfl dX9_pass_59 ?_
    refine g_iload_n (pc := 62) C dX9_pass_62 rfl 3 rfl ?_
    refine g_iald (pc := 63) C kd_115 dX9_pass_63 ?_
    refine g_iload_n (pc := 64) C dX9_pass_64 rfl 2 rfl ?_
    refine g_callR (pc := 65) C (g_runS (stk := [.int (M 96 ((20 : Int32) + x2).toNatClampNeg), .int ((20 : Int32) + x2), .ref (xad X 96)]) C (c_X9_has (M 115 x3.toNatClampNeg) x2 M) rfl rfl rfl wC_X9_has wS_X9_has wi_X9 wm_X9_140 hy_X9_has (by decide) (Nat.le_of_ble_eq_true rfl) dX9_pass_65) (fun r10 => ?_)
    refine g_callR (pc := 68) C (g_runS (stk := [.int (M 96 ((20 : Int32) + x2).toNatClampNeg), .int ((20 : Int32) + x2), .ref (xad X 96)]) C (c_X9_one r10 M) rfl rfl rfl wC_X9_one wS_X9_one wi_X9 wm_X9_224 hy_X9_one (by decide) (Nat.le_of_ble_eq_true rfl) dX9_pass_68) (fun r11 => ?_)
    refine g_iadd (pc := 71) C dX9_pass_71 ?_
    refine g_iast (pc := 72) C kd_96 dX9_pass_72 ?_
    refine g_ltM (fun M12 => ?_)
    refine g_iinc (pc := 73) (j := 3) (lv' := [(3, .int (x3 + (1 : Int32))), (0, .ref (xad X 95)), (1, .int x1), (2, .int x2)]) C dX9_pass_73 rfl (ii_1 _) (by decide) rfl ?_
    refine g_goto (pc := 76) (tgt := 42) C dX9_pass_76 (by decide) ?_
    refine g_sub (lv' := [(0, .ref (xad X 95)), (1, .int x1), (2, .int x2), (3, .int (x3 + (1 : Int32)))]) [1, 2, 3, 0] rfl ?_
    exact hk42 x1 x2 (x3 + (1 : Int32)) M12

theorem g_X9_pass_h42 {X : gX} (C : gC X cX9_pass RX9 4 (some .int) 7 162) (F : Nat) (k30 : Int32 → Int32 → gM → Option (Int32 × gM)) (hk30 : ∀ (x1 : Int32) (x2 : Int32) (M : gM), G X (gQm X rvW rMW) 4 M [(0, .ref (xad X 95)), (1, .int x1), (2, .int x2)] [] 30 (k30 x1 x2 M)) : ∀ (n : Nat) (x1 : Int32) (x2 : Int32) (x3 : Int32) (M : gM), G X (gQm X rvW rMW) 4 M [(0, .ref (xad X 95)), (1, .int x1), (2, .int x2), (3, .int x3)] [] 42 (f_X9_pass_h42 F k30 n x1 x2 x3 M) := by
  intro n
  induction n with
  | zero =>
    intro x1 x2 x3 M r hr
    have hr2 : (none : Option (Int32 × gM)) = some r := hr
    cases hr2
  | succ n ih =>
    intro x1 x2 x3 M
    exact g_X9_pass_h42_b C F k30 hk30 _ ih x1 x2 x3 M
set_option maxRecDepth 100000 in
set_option maxHeartbeats 4000000 in
theorem g_X9_pass_h30_b {X : gX} (C : gC X cX9_pass RX9 4 (some .int) 7 162) (F : Nat) (k30 : Int32 → Int32 → gM → Option (Int32 × gM)) (hk30 : ∀ (x1 : Int32) (x2 : Int32) (M : gM), G X (gQm X rvW rMW) 4 M [(0, .ref (xad X 95)), (1, .int x1), (2, .int x2)] [] 30 (k30 x1 x2 M)) (x1 : Int32) (x2 : Int32) (M : gM) : G X (gQm X rvW rMW) 4 M [(0, .ref (xad X 95)), (1, .int x1), (2, .int x2)] [] 30 (f_X9_pass_h30_b F k30 x1 x2 M) := by
  unfold f_X9_pass_h30_b
  refine g_iload_n (pc := 30) C dX9_pass_30 rfl 2 rfl ?_
  refine g_aload_n (pc := 31) C dX9_pass_31 rfl 0 rfl ?_
  refine gf_X9_47 (pc := 32) (u := 108) C kd_95 rfl dX9_pass_32 ?_
  refine g_iconst (pc := 35) C dX9_pass_35 ic_iconst_0 ?_
  refine g_iald (pc := 36) C kd_108 dX9_pass_36 ?_
  refine g_icmp_ge (pc := 37) (tgt := 143) C dX9_pass_37 (by decide) ?_ ?_
  · refine g_aload_n (pc := 143) C dX9_pass_143 rfl 0 rfl ?_
    refine gf_X9_7 (pc := 144) (u := 96) C kd_95 rfl dX9_pass_144 ?_
    refine g_bipush (pc := 147) C dX9_pass_147 ic_bipush_30 ?_
    refine g_aload_n (pc := 149) C dX9_pass_149 rfl 0 rfl ?_
    refine gf_X9_7 (pc := 150) (u := 96) C kd_95 rfl dX9_pass_150 ?_
    refine g_bipush (pc := 153) C dX9_pass_153 ic_bipush_30 ?_
    refine g_iald (pc := 155) C kd_96 dX9_pass_155 ?_
    refine g_iload_n (pc := 156) C dX9_pass_156 rfl 1 rfl ?_
    refine g_iadd (pc := 157) C dX9_pass_157 ?_
    refine g_ldcw (pc := 158) C wk_X9_258 dX9_pass_158 ?_
    refine g_icmp_le (pc := 161) (tgt := 170) C dX9_pass_161 (by decide) ?_ ?_
    · refine g_aload_n (pc := 170) C dX9_pass_170 rfl 0 rfl ?_
      refine gf_X9_7 (pc := 171) (u := 96) C kd_95 rfl dX9_pass_171 ?_
      refine g_bipush (pc := 174) C dX9_pass_174 ic_bipush_30 ?_
      refine g_iald (pc := 176) C kd_96 dX9_pass_176 ?_
      refine g_iload_n (pc := 177) C dX9_pass_177 rfl 1 rfl ?_
      refine g_iadd (pc := 178) C dX9_pass_178 ?_
      refine g_iast (pc := 179) C kd_96 dX9_pass_179 ?_
      refine g_ltM (fun M5 => ?_)
      refine g_iload_n (pc := 180) C dX9_pass_180 rfl 1 rfl ?_
      exact g_iret (pc := 181) C dX9_pass_181 rfl rfl
    · refine g_ldcw (pc := 164) C wk_X9_258 dX9_pass_164 ?_
      refine g_goto (pc := 167) (tgt := 179) C dX9_pass_167 (by decide) ?_
      refine g_iast (pc := 179) C kd_96 dX9_pass_179 ?_
      refine g_ltM (fun M6 => ?_)
      refine g_iload_n (pc := 180) C dX9_pass_180 rfl 1 rfl ?_
      exact g_iret (pc := 181) C dX9_pass_181 rfl rfl
  · refine g_iconst (pc := 40) C dX9_pass_40 ic_iconst_0 ?_
    refine g_istore_n (pc := 41) (lv' := [(3, .int (0 : Int32)), (0, .ref (xad X 95)), (1, .int x1), (2, .int x2)]) C dX9_pass_41 rfl (by decide) rfl ?_
    refine g_sub (lv' := [(0, .ref (xad X 95)), (1, .int x1), (2, .int x2), (3, .int (0 : Int32))]) [1, 2, 3, 0] rfl ?_
    exact g_X9_pass_h42 C F k30 hk30 F x1 x2 (0 : Int32) M

theorem g_X9_pass_h30 {X : gX} (C : gC X cX9_pass RX9 4 (some .int) 7 162) (F : Nat) : ∀ (n : Nat) (x1 : Int32) (x2 : Int32) (M : gM), G X (gQm X rvW rMW) 4 M [(0, .ref (xad X 95)), (1, .int x1), (2, .int x2)] [] 30 (f_X9_pass_h30 F n x1 x2 M) := by
  intro n
  induction n with
  | zero =>
    intro x1 x2 M r hr
    have hr2 : (none : Option (Int32 × gM)) = some r := hr
    cases hr2
  | succ n ih =>
    intro x1 x2 M
    exact g_X9_pass_h30_b C F _ ih x1 x2 M
set_option maxRecDepth 100000 in
set_option maxHeartbeats 4000000 in
theorem c_X9_pass (F : Nat)  (M : gM) : gCt yX9_pass cX9_pass 4 (some .int) 7 162 (fun ad K V => [.ref (ad 95)]) rvW rMW M (f_X9_pass F M) := by
  refine g_met (y := yX9_pass) (by decide +kernel) (fun _ _ _ => Nat.le_of_ble_eq_true rfl) (fun X C => ?_)
  show G X (gQm X rvW rMW) 4 M [(0, .ref (xad X 95))] [] 0 (f_X9_pass F M)
  unfold f_X9_pass
  refine g_aload_n (pc := 0) C dX9_pass_0 rfl 0 rfl ?_
  refine g_iconst (pc := 1) C dX9_pass_1 ic_iconst_0 ?_
  refine g_callW (pc := 2) C (g_runV (stk := []) C (c_X9_leastIn F (0 : Int32) M) rfl rfl rfl kd_95 rfl wC_X9_leastIn wI_X9_leastIn wV_X9_leastIn wi_X9 wm_X9_234 hy_X9_leastIn (by decide) (Nat.le_of_ble_eq_true rfl) dX9_pass_2) (fun r1 => ?_)
  refine g_lt (fun v2 => ?_)
  refine g_istore_n (pc := 5) (lv' := [(1, .int v2), (0, .ref (xad X 95))]) C dX9_pass_5 rfl (by decide) rfl ?_
  refine g_aload_n (pc := 6) C dX9_pass_6 rfl 1 rfl ?_
  refine gf_X9_7 (pc := 7) (u := 96) C kd_95 rfl dX9_pass_7 ?_
  refine g_bipush (pc := 10) C dX9_pass_10 ic_bipush_32 ?_
  refine g_dup2 (pc := 12) C dX9_pass_12 rfl rfl ?_
  refine g_iald (pc := 13) C kd_96 dX9_pass_13 ?_
  refine g_iconst (pc := 14) C dX9_pass_14 ic_iconst_1 ?_
  refine g_iadd (pc := 15) C dX9_pass_15 ?_
  refine g_iast (pc := 16) C kd_96 dX9_pass_16 ?_
  refine g_ltM (fun M3 => ?_)
  refine g_iload_n (pc := 17) C dX9_pass_17 rfl 0 rfl ?_
  refine g_if_ge (pc := 18) (tgt := 23) C dX9_pass_18 (by decide) ?_ ?_
  · refine g_aload_n (pc := 23) C dX9_pass_23 rfl 1 rfl ?_
    refine g_iconst (pc := 24) C dX9_pass_24 ic_iconst_0 ?_
    refine g_callV (pc := 25) C (g_runV (stk := []) C (c_X9_findWorn F (0 : Int32) M3) rfl rfl rfl kd_95 rfl wC_X9_findWorn wI_X9_findWorn wV_X9_findWorn wi_X9 wm_X9_237 hy_X9_findWorn (by decide) (Nat.le_of_ble_eq_true rfl) dX9_pass_25) (fun r4 => ?_)
    refine g_iconst (pc := 28) C dX9_pass_28 ic_iconst_0 ?_
    refine g_istore_n (pc := 29) (lv' := [(2, .int (0 : Int32)), (1, .int v2), (0, .ref (xad X 95))]) C dX9_pass_29 rfl (by decide) rfl ?_
    refine g_sub (lv' := [(0, .ref (xad X 95)), (1, .int v2), (2, .int (0 : Int32))]) [2, 1, 0] rfl ?_
    exact g_X9_pass_h30 C F F v2 (0 : Int32) r4
  · refine g_iconst (pc := 21) C dX9_pass_21 ic_iconst_0 ?_
    exact g_iret (pc := 22) C dX9_pass_22 rfl rfl

/-! X9_day -/
set_option maxRecDepth 100000 in
set_option maxHeartbeats 4000000 in
theorem g_X9_day_h19_b {X : gX} (C : gC X cX9_day RX9 4 (some .int) 8 185) (F : Nat) (a0 : Int32) (k19 : Int32 → Int32 → gM → Option (Int32 × gM)) (hk19 : ∀ (x2 : Int32) (x3 : Int32) (M : gM), G X (gQm X rvW rMW) 4 M [(0, .ref (xad X 95)), (1, .int a0), (2, .int x2), (3, .int x3)] [] 19 (k19 x2 x3 M)) (x2 : Int32) (x3 : Int32) (M : gM) : G X (gQm X rvW rMW) 4 M [(0, .ref (xad X 95)), (1, .int a0), (2, .int x2), (3, .int x3)] [] 19 (f_X9_day_h19_b F a0 k19 x2 x3 M) := by
  unfold f_X9_day_h19_b
  refine g_iload_n (pc := 19) C dX9_day_19 rfl 3 rfl ?_
  refine g_iload_n (pc := 20) C dX9_day_20 rfl 1 rfl ?_
  refine g_icmp_ge (pc := 21) (tgt := 37) C dX9_day_21 (by decide) ?_ ?_
  · refine g_iload_n (pc := 37) C dX9_day_37 rfl 2 rfl ?_
    exact g_iret (pc := 38) C dX9_day_38 rfl rfl
  · refine g_iload_n (pc := 24) C dX9_day_24 rfl 2 rfl ?_
    refine g_aload_n (pc := 25) C dX9_day_25 rfl 0 rfl ?_
    refine g_callW (pc := 26) C (g_runV (stk := [.int x2]) C (c_X9_pass F M) rfl rfl rfl kd_95 rfl wC_X9_pass wI_X9_pass wV_X9_pass wi_X9 wm_X9_259 hy_X9_pass (by decide) (Nat.le_of_ble_eq_true rfl) dX9_day_26) (fun r2 => ?_)
    refine g_iadd (pc := 29) C dX9_day_29 ?_
    refine g_lt (fun v3 => ?_)
    refine g_istore_n (pc := 30) (lv' := [(2, .int v3), (0, .ref (xad X 95)), (1, .int a0), (3, .int x3)]) C dX9_day_30 rfl (by decide) rfl ?_
    refine g_iinc (pc := 31) (j := 3) (lv' := [(3, .int (x3 + (1 : Int32))), (2, .int v3), (0, .ref (xad X 95)), (1, .int a0)]) C dX9_day_31 rfl (ii_1 _) (by decide) rfl ?_
    refine g_goto (pc := 34) (tgt := 19) C dX9_day_34 (by decide) ?_
    refine g_sub (lv' := [(0, .ref (xad X 95)), (1, .int a0), (2, .int v3), (3, .int (x3 + (1 : Int32)))]) [2, 3, 1, 0] rfl ?_
    exact hk19 v3 (x3 + (1 : Int32)) r2.2

theorem g_X9_day_h19 {X : gX} (C : gC X cX9_day RX9 4 (some .int) 8 185) (F : Nat) (a0 : Int32) : ∀ (n : Nat) (x2 : Int32) (x3 : Int32) (M : gM), G X (gQm X rvW rMW) 4 M [(0, .ref (xad X 95)), (1, .int a0), (2, .int x2), (3, .int x3)] [] 19 (f_X9_day_h19 F a0 n x2 x3 M) := by
  intro n
  induction n with
  | zero =>
    intro x2 x3 M r hr
    have hr2 : (none : Option (Int32 × gM)) = some r := hr
    cases hr2
  | succ n ih =>
    intro x2 x3 M
    exact g_X9_day_h19_b C F a0 _ ih x2 x3 M
set_option maxRecDepth 100000 in
set_option maxHeartbeats 4000000 in
theorem c_X9_day (F : Nat) (a0 : Int32)  (M : gM) : gCt yX9_day cX9_day 4 (some .int) 8 185 (fun ad K V => [.ref (ad 95), .int a0]) rvW rMW M (f_X9_day F a0 M) := by
  refine g_met (y := yX9_day) (by decide +kernel) (fun _ _ _ => Nat.le_of_ble_eq_true rfl) (fun X C => ?_)
  show G X (gQm X rvW rMW) 4 M [(0, .ref (xad X 95)), (1, .int a0)] [] 0 (f_X9_day F a0 M)
  unfold f_X9_day
  refine g_iload_n (pc := 0) C dX9_day_0 rfl 1 rfl ?_
  refine g_i2l (pc := 1) C dX9_day_1 ?_
  refine g_lconst (pc := 2) (v := 1) C dX9_day_2 rfl ?_
  refine g_ldc2 (pc := 3) C wl_X9_196 dX9_day_3 ?_
  refine g_callR (pc := 6) C (g_runS (stk := []) C (c_X9_in a0.toInt64 (1 : Int64) (9 : Int64) M) rfl rfl rfl wC_X9_in wS_X9_in wi_X9 wm_X9_89 hy_X9_in (by decide) (Nat.le_of_ble_eq_true rfl) dX9_day_6) (fun r1 => ?_)
  refine g_if_ne (pc := 9) (tgt := 15) C dX9_day_9 (by decide) ?_ ?_
  · refine g_iconst (pc := 15) C dX9_day_15 ic_iconst_0 ?_
    refine g_istore_n (pc := 16) (lv' := [(2, .int (0 : Int32)), (0, .ref (xad X 95)), (1, .int a0)]) C dX9_day_16 rfl (by decide) rfl ?_
    refine g_iconst (pc := 17) C dX9_day_17 ic_iconst_0 ?_
    refine g_istore_n (pc := 18) (lv' := [(3, .int (0 : Int32)), (2, .int (0 : Int32)), (0, .ref (xad X 95)), (1, .int a0)]) C dX9_day_18 rfl (by decide) rfl ?_
    refine g_sub (lv' := [(0, .ref (xad X 95)), (1, .int a0), (2, .int (0 : Int32)), (3, .int (0 : Int32))]) [2, 3, 1, 0] rfl ?_
    exact g_X9_day_h19 C F a0 F (0 : Int32) (0 : Int32) M
  · refine g_ldc (pc := 12) C wk_X9_93 dX9_day_12 ?_
    exact g_iret (pc := 14) C dX9_day_14 rfl rfl

/-! X9_draw -/
set_option maxRecDepth 100000 in
set_option maxHeartbeats 4000000 in
theorem c_X9_draw (a0 : Int32)  (M : gM) : gCt yX9_draw cX9_draw 2 (some .int) 0 0 (fun ad K V => [.ref (ad 95), .int a0]) rvW rMW M (f_X9_draw a0 M) := by
  refine g_met (y := yX9_draw) (by decide +kernel) (fun _ _ _ => Nat.le_of_ble_eq_true rfl) (fun X C => ?_)
  show G X (gQm X rvW rMW) 2 M [(0, .ref (xad X 95)), (1, .int a0)] [] 0 (f_X9_draw a0 M)
  unfold f_X9_draw
  refine g_aload_n (pc := 0) C dX9_draw_0 rfl 0 rfl ?_
  refine gf_X9_7 (pc := 1) (u := 96) C kd_95 rfl dX9_draw_1 ?_
  refine g_bipush (pc := 4) C dX9_draw_4 ic_bipush_33 ?_
  refine g_aload_n (pc := 6) C dX9_draw_6 rfl 0 rfl ?_
  refine gf_X9_7 (pc := 7) (u := 96) C kd_95 rfl dX9_draw_7 ?_
  refine g_bipush (pc := 10) C dX9_draw_10 ic_bipush_33 ?_
  refine g_iald (pc := 12) C kd_96 dX9_draw_12 ?_
  refine g_i2l (pc := 13) C dX9_draw_13 ?_
  refine g_ldc2 (pc := 14) C wl_X9_262 dX9_draw_14 ?_
  refine g_lmul (pc := 17) C dX9_draw_17 ?_
  refine g_ldc2 (pc := 18) C wl_X9_264 dX9_draw_18 ?_
  refine g_ladd (pc := 21) C dX9_draw_21 ?_
  refine g_ldc2 (pc := 22) C wl_X9_266 dX9_draw_22 ?_
  refine g_lremk (pc := 25) C dX9_draw_25 (by decide) ?_
  refine g_l2i (pc := 26) C dX9_draw_26 ?_
  refine g_iast (pc := 27) C kd_96 dX9_draw_27 ?_
  refine g_ltM (fun M1 => ?_)
  refine g_aload_n (pc := 28) C dX9_draw_28 rfl 0 rfl ?_
  refine gf_X9_7 (pc := 29) (u := 96) C kd_95 rfl dX9_draw_29 ?_
  refine g_bipush (pc := 32) C dX9_draw_32 ic_bipush_33 ?_
  refine g_iald (pc := 34) C kd_96 dX9_draw_34 ?_
  refine g_ldcw (pc := 35) C wk_X9_268 dX9_draw_35 ?_
  refine g_idivk (pc := 38) C dX9_draw_38 (by decide) ?_
  refine g_iload_n (pc := 39) C dX9_draw_39 rfl 1 rfl ?_
  refine g_irem (pc := 40) C dX9_draw_40 ?_
  exact g_iret (pc := 41) C dX9_draw_41 rfl rfl

/-! X9_firstLook -/
set_option maxRecDepth 100000 in
set_option maxHeartbeats 4000000 in
theorem g_X9_firstLook_b50 {X : gX} (C : gC X cX9_firstLook RX9 6 (some .int) 5 120) (F : Nat) (a0 : Int32) (a1 : Int32) (k10 : Int32 → Int32 → gM → Option (Int32 × gM)) (hk10 : ∀ (x3 : Int32) (x4 : Int32) (M : gM), G X (gQm X rvW rMW) 6 M [(0, .ref (xad X 95)), (1, .int a0), (2, .int a1), (3, .int x3), (4, .int x4)] [] 10 (k10 x3 x4 M)) (x3 : Int32) (x4 : Int32) (s0 : Int32) (M : gM) : G X (gQm X rvW rMW) 6 M [(0, .ref (xad X 95)), (1, .int a0), (2, .int a1), (3, .int x3), (4, .int x4)] [.int s0] 50 (f_X9_firstLook_b50 F a0 a1 k10 x3 x4 s0 M) := by
  unfold f_X9_firstLook_b50
  refine g_istore (pc := 50) (lv' := [(5, .int s0), (0, .ref (xad X 95)), (1, .int a0), (2, .int a1), (3, .int x3), (4, .int x4)]) C dX9_firstLook_50 (by decide) rfl ?_
  refine g_iload (pc := 52) C dX9_firstLook_52 0 rfl ?_
  refine g_if_eq (pc := 54) (tgt := 89) C dX9_firstLook_54 (by decide) ?_ ?_
  · refine g_iload_n (pc := 89) C dX9_firstLook_89 rfl 4 rfl ?_
    refine g_istore_n (pc := 90) (lv' := [(3, .int x3), (5, .int s0), (0, .ref (xad X 95)), (1, .int a0), (2, .int a1), (4, .int x4)]) C dX9_firstLook_90 rfl (by decide) rfl ?_
    refine g_iinc (pc := 91) (j := 5) (lv' := [(4, .int (x4 + (-1 : Int32))), (3, .int x3), (5, .int s0), (0, .ref (xad X 95)), (1, .int a0), (2, .int a1)]) C dX9_firstLook_91 rfl (ii_m1 _) (by decide) rfl ?_
    refine g_goto (pc := 94) (tgt := 10) C dX9_firstLook_94 (by decide) ?_
    refine g_sub (lv' := [(0, .ref (xad X 95)), (1, .int a0), (2, .int a1), (3, .int x3), (4, .int (x4 + (-1 : Int32)))]) [3, 4, 5, 1, 0] rfl ?_
    exact hk10 x3 (x4 + (-1 : Int32)) M
  · refine g_aload_n (pc := 57) C dX9_firstLook_57 rfl 1 rfl ?_
    refine g_iload_n (pc := 58) C dX9_firstLook_58 rfl 2 rfl ?_
    refine g_iconst (pc := 59) C dX9_firstLook_59 ic_iconst_1 ?_
    refine g_iadd (pc := 60) C dX9_firstLook_60 ?_
    refine g_aload_n (pc := 61) C dX9_firstLook_61 rfl 1 rfl ?_
    refine gf_X9_38 (pc := 62) (u := 105) C kd_95 rfl dX9_firstLook_62 ?_
    refine g_iload_n (pc := 65) C dX9_firstLook_65 rfl 2 rfl ?_
    refine g_iald (pc := 66) C kd_105 dX9_firstLook_66 ?_
    refine g_iload_n (pc := 67) C dX9_firstLook_67 rfl 3 rfl ?_
    refine g_aload_n (pc := 68) C dX9_firstLook_68 rfl 1 rfl ?_
    refine gf_X9_57 (pc := 69) (u := 110) C kd_95 rfl dX9_firstLook_69 ?_
    refine g_iload (pc := 72) C dX9_firstLook_72 5 rfl ?_
    refine g_iald (pc := 74) C kd_110 dX9_firstLook_74 ?_
    refine g_iconst (pc := 75) C dX9_firstLook_75 ic_iconst_m1 ?_
    refine g_ixor (pc := 76) C dX9_firstLook_76 ?_
    refine g_iand (pc := 77) C dX9_firstLook_77 ?_
    refine g_callW (pc := 78) C (g_runV (stk := []) C (c_X9_canRest F (a0 + (1 : Int32)) (M 105 a0.toNatClampNeg) (a1 &&& ((M 110 x4.toNatClampNeg) ^^^ (-1 : Int32))) M) rfl rfl rfl kd_95 rfl wC_X9_canRest wI_X9_canRest wV_X9_canRest wi_X9 wm_X9_231 hy_X9_canRest (by decide) (Nat.le_of_ble_eq_true rfl) dX9_firstLook_78) (fun r2 => ?_)
    refine g_if_eq (pc := 81) (tgt := 89) C dX9_firstLook_81 (by decide) ?_ ?_
    · refine g_iload_n (pc := 89) C dX9_firstLook_89 rfl 4 rfl ?_
      refine g_istore_n (pc := 90) (lv' := [(3, .int x3), (5, .int s0), (0, .ref (xad X 95)), (1, .int a0), (2, .int a1), (4, .int x4)]) C dX9_firstLook_90 rfl (by decide) rfl ?_
      refine g_iinc (pc := 91) (j := 5) (lv' := [(4, .int (x4 + (-1 : Int32))), (3, .int x3), (5, .int s0), (0, .ref (xad X 95)), (1, .int a0), (2, .int a1)]) C dX9_firstLook_91 rfl (ii_m1 _) (by decide) rfl ?_
      refine g_goto (pc := 94) (tgt := 10) C dX9_firstLook_94 (by decide) ?_
      refine g_sub (lv' := [(0, .ref (xad X 95)), (1, .int a0), (2, .int a1), (3, .int x3), (4, .int (x4 + (-1 : Int32)))]) [3, 4, 5, 1, 0] rfl ?_
      exact hk10 x3 (x4 + (-1 : Int32)) r2.2
    · refine g_iload (pc := 84) C dX9_firstLook_84 5 rfl ?_
      refine g_goto (pc := 86) (tgt := 90) C dX9_firstLook_86 (by decide) ?_
      refine g_istore_n (pc := 90) (lv' := [(3, .int x4), (5, .int s0), (0, .ref (xad X 95)), (1, .int a0), (2, .int a1), (4, .int x4)]) C dX9_firstLook_90 rfl (by decide) rfl ?_
      refine g_iinc (pc := 91) (j := 5) (lv' := [(4, .int (x4 + (-1 : Int32))), (3, .int x4), (5, .int s0), (0, .ref (xad X 95)), (1, .int a0), (2, .int a1)]) C dX9_firstLook_91 rfl (ii_m1 _) (by decide) rfl ?_
      refine g_goto (pc := 94) (tgt := 10) C dX9_firstLook_94 (by decide) ?_
      refine g_sub (lv' := [(0, .ref (xad X 95)), (1, .int a0), (2, .int a1), (3, .int x4), (4, .int (x4 + (-1 : Int32)))]) [3, 4, 5, 1, 0] rfl ?_
      exact hk10 x4 (x4 + (-1 : Int32)) r2.2

set_option maxRecDepth 100000 in
set_option maxHeartbeats 4000000 in
theorem g_X9_firstLook_b49 {X : gX} (C : gC X cX9_firstLook RX9 6 (some .int) 5 120) (F : Nat) (a0 : Int32) (a1 : Int32) (k10 : Int32 → Int32 → gM → Option (Int32 × gM)) (hk10 : ∀ (x3 : Int32) (x4 : Int32) (M : gM), G X (gQm X rvW rMW) 6 M [(0, .ref (xad X 95)), (1, .int a0), (2, .int a1), (3, .int x3), (4, .int x4)] [] 10 (k10 x3 x4 M)) (x3 : Int32) (x4 : Int32) (M : gM) : G X (gQm X rvW rMW) 6 M [(0, .ref (xad X 95)), (1, .int a0), (2, .int a1), (3, .int x3), (4, .int x4)] [] 49 (f_X9_firstLook_b49 F a0 a1 k10 x3 x4 M) := by
  unfold f_X9_firstLook_b49
  refine g_iconst (pc := 49) C dX9_firstLook_49 ic_iconst_0 ?_
  exact g_X9_firstLook_b50 C F a0 a1 k10 hk10 x3 x4 (0 : Int32) M

set_option maxRecDepth 100000 in
set_option maxHeartbeats 4000000 in
theorem g_X9_firstLook_h10_b {X : gX} (C : gC X cX9_firstLook RX9 6 (some .int) 5 120) (F : Nat) (a0 : Int32) (a1 : Int32) (k10 : Int32 → Int32 → gM → Option (Int32 × gM)) (hk10 : ∀ (x3 : Int32) (x4 : Int32) (M : gM), G X (gQm X rvW rMW) 6 M [(0, .ref (xad X 95)), (1, .int a0), (2, .int a1), (3, .int x3), (4, .int x4)] [] 10 (k10 x3 x4 M)) (x3 : Int32) (x4 : Int32) (M : gM) : G X (gQm X rvW rMW) 6 M [(0, .ref (xad X 95)), (1, .int a0), (2, .int a1), (3, .int x3), (4, .int x4)] [] 10 (f_X9_firstLook_h10_b F a0 a1 k10 x3 x4 M) := by
  unfold f_X9_firstLook_h10_b
  refine g_iload (pc := 10) C dX9_firstLook_10 4 rfl ?_
  refine g_if_lt (pc := 12) (tgt := 97) C dX9_firstLook_12 (by decide) ?_ ?_
  · refine g_iload_n (pc := 97) C dX9_firstLook_97 rfl 3 rfl ?_
    exact g_iret (pc := 98) C dX9_firstLook_98 rfl rfl
  · refine g_aload_n (pc := 15) C dX9_firstLook_15 rfl 0 rfl ?_
    refine gf_X9_57 (pc := 16) (u := 110) C kd_95 rfl dX9_firstLook_16 ?_
    refine g_iload (pc := 19) C dX9_firstLook_19 4 rfl ?_
    refine g_iald (pc := 21) C kd_110 dX9_firstLook_21 ?_
    refine g_iload_n (pc := 22) C dX9_firstLook_22 rfl 2 rfl ?_
    refine g_iconst (pc := 23) C dX9_firstLook_23 ic_iconst_m1 ?_
    refine g_ixor (pc := 24) C dX9_firstLook_24 ?_
    refine g_iand (pc := 25) C dX9_firstLook_25 ?_
    refine g_if_ne (pc := 26) (tgt := 49) C dX9_firstLook_26 (by decide) ?_ ?_
    · exact g_X9_firstLook_b49 C F a0 a1 k10 hk10 x3 x4 M
    · refine g_aload_n (pc := 29) C dX9_firstLook_29 rfl 0 rfl ?_
      refine g_iconst (pc := 30) C dX9_firstLook_30 ic_iconst_0 ?_
      refine g_aload_n (pc := 31) C dX9_firstLook_31 rfl 0 rfl ?_
      refine gf_X9_57 (pc := 32) (u := 110) C kd_95 rfl dX9_firstLook_32 ?_
      refine g_iload (pc := 35) C dX9_firstLook_35 4 rfl ?_
      refine g_iald (pc := 37) C kd_110 dX9_firstLook_37 ?_
      refine g_iload_n (pc := 38) C dX9_firstLook_38 rfl 1 rfl ?_
      refine g_callR (pc := 39) C (g_runV (stk := []) C (c_X9_isFor F (0 : Int32) (M 110 x4.toNatClampNeg) a0 M) rfl rfl rfl kd_95 rfl wC_X9_isFor wI_X9_isFor wV_X9_isFor wi_X9 wm_X9_201 hy_X9_isFor (by decide) (Nat.le_of_ble_eq_true rfl) dX9_firstLook_39) (fun r3 => ?_)
      refine g_if_eq (pc := 42) (tgt := 49) C dX9_firstLook_42 (by decide) ?_ ?_
      · exact g_X9_firstLook_b49 C F a0 a1 k10 hk10 x3 x4 M
      · refine g_iconst (pc := 45) C dX9_firstLook_45 ic_iconst_1 ?_
        refine g_goto (pc := 46) (tgt := 50) C dX9_firstLook_46 (by decide) ?_
        exact g_X9_firstLook_b50 C F a0 a1 k10 hk10 x3 x4 (1 : Int32) M

theorem g_X9_firstLook_h10 {X : gX} (C : gC X cX9_firstLook RX9 6 (some .int) 5 120) (F : Nat) (a0 : Int32) (a1 : Int32) : ∀ (n : Nat) (x3 : Int32) (x4 : Int32) (M : gM), G X (gQm X rvW rMW) 6 M [(0, .ref (xad X 95)), (1, .int a0), (2, .int a1), (3, .int x3), (4, .int x4)] [] 10 (f_X9_firstLook_h10 F a0 a1 n x3 x4 M) := by
  intro n
  induction n with
  | zero =>
    intro x3 x4 M r hr
    have hr2 : (none : Option (Int32 × gM)) = some r := hr
    cases hr2
  | succ n ih =>
    intro x3 x4 M
    exact g_X9_firstLook_h10_b C F a0 a1 _ ih x3 x4 M
set_option maxRecDepth 100000 in
set_option maxHeartbeats 4000000 in
theorem c_X9_firstLook (F : Nat) (a0 : Int32) (a1 : Int32)  (M : gM) : gCt yX9_firstLook cX9_firstLook 6 (some .int) 5 120 (fun ad K V => [.ref (ad 95), .int a0, .int a1]) rvW rMW M (f_X9_firstLook F a0 a1 M) := by
  refine g_met (y := yX9_firstLook) (by decide +kernel) (fun _ _ _ => Nat.le_of_ble_eq_true rfl) (fun X C => ?_)
  show G X (gQm X rvW rMW) 6 M [(0, .ref (xad X 95)), (1, .int a0), (2, .int a1)] [] 0 (f_X9_firstLook F a0 a1 M)
  unfold f_X9_firstLook
  refine g_iconst (pc := 0) C dX9_firstLook_0 ic_iconst_m1 ?_
  refine g_istore_n (pc := 1) (lv' := [(3, .int (-1 : Int32)), (0, .ref (xad X 95)), (1, .int a0), (2, .int a1)]) C dX9_firstLook_1 rfl (by decide) rfl ?_
  refine g_aload_n (pc := 2) C dX9_firstLook_2 rfl 1 rfl ?_
  refine gf_X9_165 (pc := 3) C kd_95 dX9_firstLook_3 ?_
  refine g_iconst (pc := 6) C dX9_firstLook_6 ic_iconst_1 ?_
  refine g_isub (pc := 7) C dX9_firstLook_7 ?_
  refine g_lt (fun v1 => ?_)
  refine g_istore (pc := 8) (lv' := [(4, .int v1), (3, .int (-1 : Int32)), (0, .ref (xad X 95)), (1, .int a0), (2, .int a1)]) C dX9_firstLook_8 (by decide) rfl ?_
  refine g_sub (lv' := [(0, .ref (xad X 95)), (1, .int a0), (2, .int a1), (3, .int (-1 : Int32)), (4, .int v1)]) [2, 3, 4, 1, 0] rfl ?_
  exact g_X9_firstLook_h10 C F a0 a1 F (-1 : Int32) v1 M

/-! X9_lookOf -/
set_option maxRecDepth 100000 in
set_option maxHeartbeats 4000000 in
theorem g_X9_lookOf_h17_b {X : gX} (C : gC X cX9_lookOf RX9 5 (some .int) 6 145) (F : Nat) (a0 : Int32) (k17 : Int32 → Int32 → Int32 → gM → Option (Int32 × gM)) (hk17 : ∀ (x2 : Int32) (x3 : Int32) (x4 : Int32) (M : gM), G X (gQm X rvW rMW) 5 M [(0, .ref (xad X 95)), (1, .int a0), (2, .int x2), (3, .int x3), (4, .int x4)] [] 17 (k17 x2 x3 x4 M)) (x2 : Int32) (x3 : Int32) (x4 : Int32) (M : gM) : G X (gQm X rvW rMW) 5 M [(0, .ref (xad X 95)), (1, .int a0), (2, .int x2), (3, .int x3), (4, .int x4)] [] 17 (f_X9_lookOf_h17_b F a0 k17 x2 x3 x4 M) := by
  unfold f_X9_lookOf_h17_b
  refine g_iload (pc := 17) C dX9_lookOf_17 4 rfl ?_
  refine g_iload_n (pc := 19) C dX9_lookOf_19 rfl 1 rfl ?_
  refine g_icmp_gt (pc := 20) (tgt := 64) C dX9_lookOf_20 (by decide) ?_ ?_
  · refine g_aload_n (pc := 64) C dX9_lookOf_64 rfl 0 rfl ?_
    refine gf_X9_57 (pc := 65) (u := 110) C kd_95 rfl dX9_lookOf_65 ?_
    refine g_iload_n (pc := 68) C dX9_lookOf_68 rfl 3 rfl ?_
    refine g_iald (pc := 69) C kd_110 dX9_lookOf_69 ?_
    exact g_iret (pc := 70) C dX9_lookOf_70 rfl rfl
  · refine g_aload_n (pc := 23) C dX9_lookOf_23 rfl 0 rfl ?_
    refine gf_X9_38 (pc := 24) (u := 105) C kd_95 rfl dX9_lookOf_24 ?_
    refine g_iload (pc := 27) C dX9_lookOf_27 4 rfl ?_
    refine g_iald (pc := 29) C kd_105 dX9_lookOf_29 ?_
    refine g_aload_n (pc := 30) C dX9_lookOf_30 rfl 0 rfl ?_
    refine gf_X9_38 (pc := 31) (u := 105) C kd_95 rfl dX9_lookOf_31 ?_
    refine g_iload_n (pc := 34) C dX9_lookOf_34 rfl 1 rfl ?_
    refine g_iald (pc := 35) C kd_105 dX9_lookOf_35 ?_
    refine g_icmp_ne (pc := 36) (tgt := 58) C dX9_lookOf_36 (by decide) ?_ ?_
    · refine g_iinc (pc := 58) (j := 4) (lv' := [(4, .int (x4 + (1 : Int32))), (0, .ref (xad X 95)), (1, .int a0), (2, .int x2), (3, .int x3)]) C dX9_lookOf_58 rfl (ii_1 _) (by decide) rfl ?_
      refine g_goto (pc := 61) (tgt := 17) C dX9_lookOf_61 (by decide) ?_
      refine g_sub (lv' := [(0, .ref (xad X 95)), (1, .int a0), (2, .int x2), (3, .int x3), (4, .int (x4 + (1 : Int32)))]) [1, 2, 3, 4, 0] rfl ?_
      exact hk17 x2 x3 (x4 + (1 : Int32)) M
    · refine g_aload_n (pc := 39) C dX9_lookOf_39 rfl 0 rfl ?_
      refine g_iload (pc := 40) C dX9_lookOf_40 4 rfl ?_
      refine g_iload_n (pc := 42) C dX9_lookOf_42 rfl 2 rfl ?_
      refine g_callW (pc := 43) C (g_runV (stk := []) C (c_X9_firstLook F x4 x2 M) rfl rfl rfl kd_95 rfl wC_X9_firstLook wI_X9_firstLook wV_X9_firstLook wi_X9 wm_X9_228 hy_X9_firstLook (by decide) (Nat.le_of_ble_eq_true rfl) dX9_lookOf_43) (fun r2 => ?_)
      refine g_lt (fun v3 => ?_)
      refine g_istore_n (pc := 46) (lv' := [(3, .int v3), (0, .ref (xad X 95)), (1, .int a0), (2, .int x2), (4, .int x4)]) C dX9_lookOf_46 rfl (by decide) rfl ?_
      refine g_iload_n (pc := 47) C dX9_lookOf_47 rfl 3 rfl ?_
      refine g_aload_n (pc := 48) C dX9_lookOf_48 rfl 1 rfl ?_
      refine gf_X9_57 (pc := 49) (u := 110) C kd_95 rfl dX9_lookOf_49 ?_
      refine g_iload_n (pc := 52) C dX9_lookOf_52 rfl 0 rfl ?_
      refine g_iald (pc := 53) C kd_110 dX9_lookOf_53 ?_
      refine g_iconst (pc := 54) C dX9_lookOf_54 ic_iconst_m1 ?_
      refine g_ixor (pc := 55) C dX9_lookOf_55 ?_
      refine g_iand (pc := 56) C dX9_lookOf_56 ?_
      refine g_lt (fun v4 => ?_)
      refine g_istore_n (pc := 57) (lv' := [(2, .int v4), (3, .int v3), (0, .ref (xad X 95)), (1, .int a0), (4, .int x4)]) C dX9_lookOf_57 rfl (by decide) rfl ?_
      refine g_iinc (pc := 58) (j := 4) (lv' := [(4, .int (x4 + (1 : Int32))), (2, .int v4), (3, .int v3), (0, .ref (xad X 95)), (1, .int a0)]) C dX9_lookOf_58 rfl (ii_1 _) (by decide) rfl ?_
      refine g_goto (pc := 61) (tgt := 17) C dX9_lookOf_61 (by decide) ?_
      refine g_sub (lv' := [(0, .ref (xad X 95)), (1, .int a0), (2, .int v4), (3, .int v3), (4, .int (x4 + (1 : Int32)))]) [3, 4, 1, 2, 0] rfl ?_
      exact hk17 v4 v3 (x4 + (1 : Int32)) r2.2

theorem g_X9_lookOf_h17 {X : gX} (C : gC X cX9_lookOf RX9 5 (some .int) 6 145) (F : Nat) (a0 : Int32) : ∀ (n : Nat) (x2 : Int32) (x3 : Int32) (x4 : Int32) (M : gM), G X (gQm X rvW rMW) 5 M [(0, .ref (xad X 95)), (1, .int a0), (2, .int x2), (3, .int x3), (4, .int x4)] [] 17 (f_X9_lookOf_h17 F a0 n x2 x3 x4 M) := by
  intro n
  induction n with
  | zero =>
    intro x2 x3 x4 M r hr
    have hr2 : (none : Option (Int32 × gM)) = some r := hr
    cases hr2
  | succ n ih =>
    intro x2 x3 x4 M
    exact g_X9_lookOf_h17_b C F a0 _ ih x2 x3 x4 M
set_option maxRecDepth 100000 in
set_option maxHeartbeats 4000000 in
theorem c_X9_lookOf (F : Nat) (a0 : Int32)  (M : gM) : gCt yX9_lookOf cX9_lookOf 5 (some .int) 6 145 (fun ad K V => [.ref (ad 95), .int a0]) rvW rMW M (f_X9_lookOf F a0 M) := by
  refine g_met (y := yX9_lookOf) (by decide +kernel) (fun _ _ _ => Nat.le_of_ble_eq_true rfl) (fun X C => ?_)
  show G X (gQm X rvW rMW) 5 M [(0, .ref (xad X 95)), (1, .int a0)] [] 0 (f_X9_lookOf F a0 M)
  unfold f_X9_lookOf
  refine g_aload_n (pc := 0) C dX9_lookOf_0 rfl 0 rfl ?_
  refine gf_X9_72 (pc := 1) (u := 115) C kd_95 rfl dX9_lookOf_1 ?_
  refine g_aload_n (pc := 4) C dX9_lookOf_4 rfl 0 rfl ?_
  refine gf_X9_38 (pc := 5) (u := 105) C kd_95 rfl dX9_lookOf_5 ?_
  refine g_iload_n (pc := 8) C dX9_lookOf_8 rfl 1 rfl ?_
  refine g_iald (pc := 9) C kd_105 dX9_lookOf_9 ?_
  refine g_iald (pc := 10) C kd_115 dX9_lookOf_10 ?_
  refine g_lt (fun v1 => ?_)
  refine g_istore_n (pc := 11) (lv' := [(2, .int v1), (0, .ref (xad X 95)), (1, .int a0)]) C dX9_lookOf_11 rfl (by decide) rfl ?_
  refine g_iconst (pc := 12) C dX9_lookOf_12 ic_iconst_m1 ?_
  refine g_istore_n (pc := 13) (lv' := [(3, .int (-1 : Int32)), (2, .int v1), (0, .ref (xad X 95)), (1, .int a0)]) C dX9_lookOf_13 rfl (by decide) rfl ?_
  refine g_iconst (pc := 14) C dX9_lookOf_14 ic_iconst_0 ?_
  refine g_istore (pc := 15) (lv' := [(4, .int (0 : Int32)), (3, .int (-1 : Int32)), (2, .int v1), (0, .ref (xad X 95)), (1, .int a0)]) C dX9_lookOf_15 (by decide) rfl ?_
  refine g_sub (lv' := [(0, .ref (xad X 95)), (1, .int a0), (2, .int v1), (3, .int (-1 : Int32)), (4, .int (0 : Int32))]) [3, 4, 2, 1, 0] rfl ?_
  exact g_X9_lookOf_h17 C F a0 F v1 (-1 : Int32) (0 : Int32) M

/-! X9_dressing -/
set_option maxRecDepth 100000 in
set_option maxHeartbeats 4000000 in
theorem g_X9_dressing_b16 {X : gX} (C : gC X cX9_dressing RX9 3 (some .int) 7 169) (F : Nat) (a0 : Int32) (M : gM) : G X (gQm X rvW rMW) 3 M [(0, .ref (xad X 95)), (1, .int a0)] [] 16 (f_X9_dressing_b16 F a0 M) := by
  unfold f_X9_dressing_b16
  refine g_aload_n (pc := 16) C dX9_dressing_16 rfl 0 rfl ?_
  refine g_iconst (pc := 17) C dX9_dressing_17 ic_iconst_0 ?_
  refine g_callW (pc := 18) C (g_runV (stk := []) C (c_X9_leastIn F (0 : Int32) M) rfl rfl rfl kd_95 rfl wC_X9_leastIn wI_X9_leastIn wV_X9_leastIn wi_X9 wm_X9_234 hy_X9_leastIn (by decide) (Nat.le_of_ble_eq_true rfl) dX9_dressing_18) (fun r1 => ?_)
  refine g_lt (fun v2 => ?_)
  refine g_istore_n (pc := 21) (lv' := [(2, .int v2), (0, .ref (xad X 95)), (1, .int a0)]) C dX9_dressing_21 rfl (by decide) rfl ?_
  refine g_iload_n (pc := 22) C dX9_dressing_22 rfl 0 rfl ?_
  refine g_if_lt (pc := 23) (tgt := 30) C dX9_dressing_23 (by decide) ?_ ?_
  · refine g_iload_n (pc := 30) C dX9_dressing_30 rfl 0 rfl ?_
    exact g_iret (pc := 31) C dX9_dressing_31 rfl rfl
  · refine g_iload_n (pc := 26) C dX9_dressing_26 rfl 2 rfl ?_
    refine g_if_ge (pc := 27) (tgt := 32) C dX9_dressing_27 (by decide) ?_ ?_
    · refine g_aload_n (pc := 32) C dX9_dressing_32 rfl 1 rfl ?_
      refine g_iconst (pc := 33) C dX9_dressing_33 ic_iconst_0 ?_
      refine g_callV (pc := 34) C (g_runV (stk := []) C (c_X9_findWorn F (0 : Int32) r1.2) rfl rfl rfl kd_95 rfl wC_X9_findWorn wI_X9_findWorn wV_X9_findWorn wi_X9 wm_X9_237 hy_X9_findWorn (by decide) (Nat.le_of_ble_eq_true rfl) dX9_dressing_34) (fun r3 => ?_)
      refine g_aload_n (pc := 37) C dX9_dressing_37 rfl 1 rfl ?_
      refine g_iload_n (pc := 38) C dX9_dressing_38 rfl 2 rfl ?_
      refine g_callW (pc := 39) C (g_runV (stk := []) C (c_X9_lookOf F a0 r3) rfl rfl rfl kd_95 rfl wC_X9_lookOf wI_X9_lookOf wV_X9_lookOf wi_X9 wm_X9_240 hy_X9_lookOf (by decide) (Nat.le_of_ble_eq_true rfl) dX9_dressing_39) (fun r4 => ?_)
      exact g_iret (pc := 42) C dX9_dressing_42 rfl rfl
    · refine g_iload_n (pc := 30) C dX9_dressing_30 rfl 0 rfl ?_
      exact g_iret (pc := 31) C dX9_dressing_31 rfl rfl

set_option maxRecDepth 100000 in
set_option maxHeartbeats 4000000 in
theorem c_X9_dressing (F : Nat) (a0 : Int32)  (M : gM) : gCt yX9_dressing cX9_dressing 3 (some .int) 7 169 (fun ad K V => [.ref (ad 95), .int a0]) rvW rMW M (f_X9_dressing F a0 M) := by
  refine g_met (y := yX9_dressing) (by decide +kernel) (fun _ _ _ => Nat.le_of_ble_eq_true rfl) (fun X C => ?_)
  show G X (gQm X rvW rMW) 3 M [(0, .ref (xad X 95)), (1, .int a0)] [] 0 (f_X9_dressing F a0 M)
  unfold f_X9_dressing
  refine g_iload_n (pc := 0) C dX9_dressing_0 rfl 1 rfl ?_
  refine g_iconst (pc := 1) C dX9_dressing_1 ic_iconst_m1 ?_
  refine g_icmp_eq (pc := 2) (tgt := 16) C dX9_dressing_2 (by decide) ?_ ?_
  · exact g_X9_dressing_b16 C F a0 M
  · refine g_aload_n (pc := 5) C dX9_dressing_5 rfl 0 rfl ?_
    refine g_iload_n (pc := 6) C dX9_dressing_6 rfl 1 rfl ?_
    refine g_callR (pc := 7) C (g_runV (stk := []) C (c_X9_isScene a0 M) rfl rfl rfl kd_95 rfl wC_X9_isScene wI_X9_isScene wV_X9_isScene wi_X9 wm_X9_189 hy_X9_isScene (by decide) (Nat.le_of_ble_eq_true rfl) dX9_dressing_7) (fun r5 => ?_)
    refine g_if_ne (pc := 10) (tgt := 16) C dX9_dressing_10 (by decide) ?_ ?_
    · exact g_X9_dressing_b16 C F a0 M
    · refine g_ldc (pc := 13) C wk_X9_188 dX9_dressing_13 ?_
      exact g_iret (pc := 15) C dX9_dressing_15 rfl rfl

/-! X9_drift -/
set_option maxRecDepth 100000 in
set_option maxHeartbeats 4000000 in
theorem g_X9_drift_b75 {X : gX} (C : gC X cX9_drift RX9 7 (some .int) 8 185) (F : Nat) (a0 : Int32) (k19 : Int32 → Int32 → gM → Option (Int32 × gM)) (k27 : Int32 → Int32 → Int32 → gM → Option (Int32 × gM)) (hk19 : ∀ (x2 : Int32) (x3 : Int32) (M : gM), G X (gQm X rvW rMW) 7 M [(0, .ref (xad X 95)), (1, .int a0), (2, .int x2), (3, .int x3)] [] 19 (k19 x2 x3 M)) (hk27 : ∀ (x2 : Int32) (x3 : Int32) (x4 : Int32) (M : gM), G X (gQm X rvW rMW) 7 M [(0, .ref (xad X 95)), (1, .int a0), (2, .int x2), (3, .int x3), (4, .int x4)] [] 27 (k27 x2 x3 x4 M)) (x2 : Int32) (x3 : Int32) (x4 : Int32) (s0 : Int32) (s1 : Int32) (M : gM) : G X (gQm X rvW rMW) 7 M [(0, .ref (xad X 95)), (1, .int a0), (2, .int x2), (3, .int x3), (4, .int x4)] [.int s0, .int s1] 75 (f_X9_drift_b75 F a0 k19 k27 x2 x3 x4 s0 s1 M) := by
  unfold f_X9_drift_b75
  refine g_iadd (pc := 75) C dX9_drift_75 ?_
  refine g_lt (fun v6 => ?_)
  refine g_istore (pc := 76) (lv' := [(6, .int v6), (0, .ref (xad X 95)), (1, .int a0), (2, .int x2), (3, .int x3), (4, .int x4)]) C dX9_drift_76 (by decide) rfl ?_
  refine g_aload_n (pc := 78) C dX9_drift_78 rfl 1 rfl ?_
  refine gf_X9_7 (pc := 79) (u := 96) C kd_95 rfl dX9_drift_79 ?_
  refine g_bipush (pc := 82) C dX9_drift_82 ic_bipush_10 ?_
  refine g_iload (pc := 84) C dX9_drift_84 5 rfl ?_
  refine g_iadd (pc := 86) C dX9_drift_86 ?_
  refine g_iload (pc := 87) C dX9_drift_87 0 rfl ?_
  refine g_bipush (pc := 89) C dX9_drift_89 ic_bipush_99 ?_
  refine g_icmp_le (pc := 91) (tgt := 99) C dX9_drift_91 (by decide) ?_ ?_
  · refine g_iload (pc := 99) C dX9_drift_99 0 rfl ?_
    refine g_if_ge (pc := 101) (tgt := 108) C dX9_drift_101 (by decide) ?_ ?_
    · refine g_iload (pc := 108) C dX9_drift_108 0 rfl ?_
      refine g_iast (pc := 110) C kd_96 dX9_drift_110 ?_
      refine g_ltM (fun M7 => ?_)
      refine g_iinc (pc := 111) (j := 5) (lv' := [(4, .int (x4 + (1 : Int32))), (6, .int v6), (0, .ref (xad X 95)), (1, .int a0), (2, .int x2), (3, .int x3)]) C dX9_drift_111 rfl (ii_1 _) (by decide) rfl ?_
      refine g_goto (pc := 114) (tgt := 27) C dX9_drift_114 (by decide) ?_
      refine g_sub (lv' := [(0, .ref (xad X 95)), (1, .int a0), (2, .int x2), (3, .int x3), (4, .int (x4 + (1 : Int32)))]) [2, 3, 4, 5, 0] rfl ?_
      exact hk27 x2 x3 (x4 + (1 : Int32)) M7
    · refine g_iconst (pc := 104) C dX9_drift_104 ic_iconst_0 ?_
      refine g_goto (pc := 105) (tgt := 110) C dX9_drift_105 (by decide) ?_
      refine g_iast (pc := 110) C kd_96 dX9_drift_110 ?_
      refine g_ltM (fun M8 => ?_)
      refine g_iinc (pc := 111) (j := 5) (lv' := [(4, .int (x4 + (1 : Int32))), (6, .int v6), (0, .ref (xad X 95)), (1, .int a0), (2, .int x2), (3, .int x3)]) C dX9_drift_111 rfl (ii_1 _) (by decide) rfl ?_
      refine g_goto (pc := 114) (tgt := 27) C dX9_drift_114 (by decide) ?_
      refine g_sub (lv' := [(0, .ref (xad X 95)), (1, .int a0), (2, .int x2), (3, .int x3), (4, .int (x4 + (1 : Int32)))]) [2, 3, 4, 5, 0] rfl ?_
      exact hk27 x2 x3 (x4 + (1 : Int32)) M8
  · refine g_bipush (pc := 94) C dX9_drift_94 ic_bipush_99 ?_
    refine g_goto (pc := 96) (tgt := 110) C dX9_drift_96 (by decide) ?_
    refine g_iast (pc := 110) C kd_96 dX9_drift_110 ?_
    refine g_ltM (fun M9 => ?_)
    refine g_iinc (pc := 111) (j := 5) (lv' := [(4, .int (x4 + (1 : Int32))), (6, .int v6), (0, .ref (xad X 95)), (1, .int a0), (2, .int x2), (3, .int x3)]) C dX9_drift_111 rfl (ii_1 _) (by decide) rfl ?_
    refine g_goto (pc := 114) (tgt := 27) C dX9_drift_114 (by decide) ?_
    refine g_sub (lv' := [(0, .ref (xad X 95)), (1, .int a0), (2, .int x2), (3, .int x3), (4, .int (x4 + (1 : Int32)))]) [2, 3, 4, 5, 0] rfl ?_
    exact hk27 x2 x3 (x4 + (1 : Int32)) M9

set_option maxRecDepth 100000 in
set_option maxHeartbeats 4000000 in
theorem g_X9_drift_h27_b {X : gX} (C : gC X cX9_drift RX9 7 (some .int) 8 185) (F : Nat) (a0 : Int32) (k19 : Int32 → Int32 → gM → Option (Int32 × gM)) (hk19 : ∀ (x2 : Int32) (x3 : Int32) (M : gM), G X (gQm X rvW rMW) 7 M [(0, .ref (xad X 95)), (1, .int a0), (2, .int x2), (3, .int x3)] [] 19 (k19 x2 x3 M)) (k27 : Int32 → Int32 → Int32 → gM → Option (Int32 × gM)) (hk27 : ∀ (x2 : Int32) (x3 : Int32) (x4 : Int32) (M : gM), G X (gQm X rvW rMW) 7 M [(0, .ref (xad X 95)), (1, .int a0), (2, .int x2), (3, .int x3), (4, .int x4)] [] 27 (k27 x2 x3 x4 M)) (x2 : Int32) (x3 : Int32) (x4 : Int32) (M : gM) : G X (gQm X rvW rMW) 7 M [(0, .ref (xad X 95)), (1, .int a0), (2, .int x2), (3, .int x3), (4, .int x4)] [] 27 (f_X9_drift_h27_b F a0 k19 k27 x2 x3 x4 M) := by
  unfold f_X9_drift_h27_b
  refine g_iload (pc := 27) C dX9_drift_27 4 rfl ?_
  refine g_aload_n (pc := 29) C dX9_drift_29 rfl 0 rfl ?_
  refine gf_X9_47 (pc := 30) (u := 108) C kd_95 rfl dX9_drift_30 ?_
  refine g_iconst (pc := 33) C dX9_drift_33 ic_iconst_0 ?_
  refine g_iald (pc := 34) C kd_108 dX9_drift_34 ?_
  refine g_icmp_ge (pc := 35) (tgt := 117) C dX9_drift_35 (by decide) ?_ ?_
  · refine g_iload_n (pc := 117) C dX9_drift_117 rfl 2 rfl ?_
    refine g_aload_n (pc := 118) C dX9_drift_118 rfl 0 rfl ?_
    refine g_callW (pc := 119) C (g_runV (stk := [.int x2]) C (c_X9_pass F M) rfl rfl rfl kd_95 rfl wC_X9_pass wI_X9_pass wV_X9_pass wi_X9 wm_X9_259 hy_X9_pass (by decide) (Nat.le_of_ble_eq_true rfl) dX9_drift_119) (fun r2 => ?_)
    refine g_iadd (pc := 122) C dX9_drift_122 ?_
    refine g_lt (fun v3 => ?_)
    refine g_istore_n (pc := 123) (lv' := [(2, .int v3), (0, .ref (xad X 95)), (1, .int a0), (3, .int x3), (4, .int x4)]) C dX9_drift_123 rfl (by decide) rfl ?_
    refine g_iinc (pc := 124) (j := 3) (lv' := [(3, .int (x3 + (1 : Int32))), (2, .int v3), (0, .ref (xad X 95)), (1, .int a0), (4, .int x4)]) C dX9_drift_124 rfl (ii_1 _) (by decide) rfl ?_
    refine g_goto (pc := 127) (tgt := 19) C dX9_drift_127 (by decide) ?_
    refine g_sub (lv' := [(0, .ref (xad X 95)), (1, .int a0), (2, .int v3), (3, .int (x3 + (1 : Int32)))]) [2, 3, 1, 0] rfl ?_
    exact hk19 v3 (x3 + (1 : Int32)) r2.2
  · refine g_aload_n (pc := 38) C dX9_drift_38 rfl 0 rfl ?_
    refine g_iconst (pc := 39) C dX9_drift_39 ic_iconst_4 ?_
    refine g_callW (pc := 40) C (g_runV (stk := []) C (c_X9_draw (4 : Int32) M) rfl rfl rfl kd_95 rfl wC_X9_draw wI_X9_draw wV_X9_draw wi_X9 wm_X9_269 hy_X9_draw (by decide) (Nat.le_of_ble_eq_true rfl) dX9_drift_40) (fun r4 => ?_)
    refine g_lt (fun v5 => ?_)
    refine g_istore (pc := 43) (lv' := [(5, .int v5), (0, .ref (xad X 95)), (1, .int a0), (2, .int x2), (3, .int x3), (4, .int x4)]) C dX9_drift_43 (by decide) rfl ?_
    refine g_aload_n (pc := 45) C dX9_drift_45 rfl 1 rfl ?_
    refine gf_X9_7 (pc := 46) (u := 96) C kd_95 rfl dX9_drift_46 ?_
    refine g_bipush (pc := 49) C dX9_drift_49 ic_bipush_10 ?_
    refine g_iload (pc := 51) C dX9_drift_51 5 rfl ?_
    refine g_iadd (pc := 53) C dX9_drift_53 ?_
    refine g_iald (pc := 54) C kd_96 dX9_drift_54 ?_
    refine g_iload (pc := 55) C dX9_drift_55 0 rfl ?_
    refine g_if_ne (pc := 57) (tgt := 64) C dX9_drift_57 (by decide) ?_ ?_
    · refine g_iload (pc := 64) C dX9_drift_64 0 rfl ?_
      refine g_iconst (pc := 66) C dX9_drift_66 ic_iconst_1 ?_
      refine g_icmp_ne (pc := 67) (tgt := 74) C dX9_drift_67 (by decide) ?_ ?_
      · refine g_iconst (pc := 74) C dX9_drift_74 ic_iconst_0 ?_
        refine g_sub (lv' := [(0, .ref (xad X 95)), (1, .int a0), (2, .int x2), (3, .int x3), (4, .int x4)]) [1, 2, 3, 4, 5] rfl ?_
        exact g_X9_drift_b75 C F a0 k19 k27 hk19 hk27 x2 x3 x4 (0 : Int32) (r4.2 96 ((10 : Int32) + x4).toNatClampNeg) r4.2
      · refine g_iconst (pc := 70) C dX9_drift_70 ic_iconst_m1 ?_
        refine g_goto (pc := 71) (tgt := 75) C dX9_drift_71 (by decide) ?_
        refine g_sub (lv' := [(0, .ref (xad X 95)), (1, .int a0), (2, .int x2), (3, .int x3), (4, .int x4)]) [1, 2, 3, 4, 5] rfl ?_
        exact g_X9_drift_b75 C F a0 k19 k27 hk19 hk27 x2 x3 x4 (-1 : Int32) (r4.2 96 ((10 : Int32) + x4).toNatClampNeg) r4.2
    · refine g_iconst (pc := 60) C dX9_drift_60 ic_iconst_1 ?_
      refine g_goto (pc := 61) (tgt := 75) C dX9_drift_61 (by decide) ?_
      refine g_sub (lv' := [(0, .ref (xad X 95)), (1, .int a0), (2, .int x2), (3, .int x3), (4, .int x4)]) [1, 2, 3, 4, 5] rfl ?_
      exact g_X9_drift_b75 C F a0 k19 k27 hk19 hk27 x2 x3 x4 (1 : Int32) (r4.2 96 ((10 : Int32) + x4).toNatClampNeg) r4.2

theorem g_X9_drift_h27 {X : gX} (C : gC X cX9_drift RX9 7 (some .int) 8 185) (F : Nat) (a0 : Int32) (k19 : Int32 → Int32 → gM → Option (Int32 × gM)) (hk19 : ∀ (x2 : Int32) (x3 : Int32) (M : gM), G X (gQm X rvW rMW) 7 M [(0, .ref (xad X 95)), (1, .int a0), (2, .int x2), (3, .int x3)] [] 19 (k19 x2 x3 M)) : ∀ (n : Nat) (x2 : Int32) (x3 : Int32) (x4 : Int32) (M : gM), G X (gQm X rvW rMW) 7 M [(0, .ref (xad X 95)), (1, .int a0), (2, .int x2), (3, .int x3), (4, .int x4)] [] 27 (f_X9_drift_h27 F a0 k19 n x2 x3 x4 M) := by
  intro n
  induction n with
  | zero =>
    intro x2 x3 x4 M r hr
    have hr2 : (none : Option (Int32 × gM)) = some r := hr
    cases hr2
  | succ n ih =>
    intro x2 x3 x4 M
    exact g_X9_drift_h27_b C F a0 k19 hk19 _ ih x2 x3 x4 M
set_option maxRecDepth 100000 in
set_option maxHeartbeats 4000000 in
theorem g_X9_drift_h19_b {X : gX} (C : gC X cX9_drift RX9 7 (some .int) 8 185) (F : Nat) (a0 : Int32) (k19 : Int32 → Int32 → gM → Option (Int32 × gM)) (hk19 : ∀ (x2 : Int32) (x3 : Int32) (M : gM), G X (gQm X rvW rMW) 7 M [(0, .ref (xad X 95)), (1, .int a0), (2, .int x2), (3, .int x3)] [] 19 (k19 x2 x3 M)) (x2 : Int32) (x3 : Int32) (M : gM) : G X (gQm X rvW rMW) 7 M [(0, .ref (xad X 95)), (1, .int a0), (2, .int x2), (3, .int x3)] [] 19 (f_X9_drift_h19_b F a0 k19 x2 x3 M) := by
  unfold f_X9_drift_h19_b
  refine g_iload_n (pc := 19) C dX9_drift_19 rfl 3 rfl ?_
  refine g_iload_n (pc := 20) C dX9_drift_20 rfl 1 rfl ?_
  refine g_icmp_ge (pc := 21) (tgt := 130) C dX9_drift_21 (by decide) ?_ ?_
  · refine g_iload_n (pc := 130) C dX9_drift_130 rfl 2 rfl ?_
    exact g_iret (pc := 131) C dX9_drift_131 rfl rfl
  · refine g_iconst (pc := 24) C dX9_drift_24 ic_iconst_0 ?_
    refine g_istore (pc := 25) (lv' := [(4, .int (0 : Int32)), (0, .ref (xad X 95)), (1, .int a0), (2, .int x2), (3, .int x3)]) C dX9_drift_25 (by decide) rfl ?_
    refine g_sub (lv' := [(0, .ref (xad X 95)), (1, .int a0), (2, .int x2), (3, .int x3), (4, .int (0 : Int32))]) [1, 2, 3, 4, 0] rfl ?_
    exact g_X9_drift_h27 C F a0 k19 hk19 F x2 x3 (0 : Int32) M

theorem g_X9_drift_h19 {X : gX} (C : gC X cX9_drift RX9 7 (some .int) 8 185) (F : Nat) (a0 : Int32) : ∀ (n : Nat) (x2 : Int32) (x3 : Int32) (M : gM), G X (gQm X rvW rMW) 7 M [(0, .ref (xad X 95)), (1, .int a0), (2, .int x2), (3, .int x3)] [] 19 (f_X9_drift_h19 F a0 n x2 x3 M) := by
  intro n
  induction n with
  | zero =>
    intro x2 x3 M r hr
    have hr2 : (none : Option (Int32 × gM)) = some r := hr
    cases hr2
  | succ n ih =>
    intro x2 x3 M
    exact g_X9_drift_h19_b C F a0 _ ih x2 x3 M
set_option maxRecDepth 100000 in
set_option maxHeartbeats 4000000 in
theorem c_X9_drift (F : Nat) (a0 : Int32)  (M : gM) : gCt yX9_drift cX9_drift 7 (some .int) 8 185 (fun ad K V => [.ref (ad 95), .int a0]) rvW rMW M (f_X9_drift F a0 M) := by
  refine g_met (y := yX9_drift) (by decide +kernel) (fun _ _ _ => Nat.le_of_ble_eq_true rfl) (fun X C => ?_)
  show G X (gQm X rvW rMW) 7 M [(0, .ref (xad X 95)), (1, .int a0)] [] 0 (f_X9_drift F a0 M)
  unfold f_X9_drift
  refine g_iload_n (pc := 0) C dX9_drift_0 rfl 1 rfl ?_
  refine g_i2l (pc := 1) C dX9_drift_1 ?_
  refine g_lconst (pc := 2) (v := 1) C dX9_drift_2 rfl ?_
  refine g_ldc2 (pc := 3) C wl_X9_196 dX9_drift_3 ?_
  refine g_callR (pc := 6) C (g_runS (stk := []) C (c_X9_in a0.toInt64 (1 : Int64) (9 : Int64) M) rfl rfl rfl wC_X9_in wS_X9_in wi_X9 wm_X9_89 hy_X9_in (by decide) (Nat.le_of_ble_eq_true rfl) dX9_drift_6) (fun r1 => ?_)
  refine g_if_ne (pc := 9) (tgt := 15) C dX9_drift_9 (by decide) ?_ ?_
  · refine g_iconst (pc := 15) C dX9_drift_15 ic_iconst_0 ?_
    refine g_istore_n (pc := 16) (lv' := [(2, .int (0 : Int32)), (0, .ref (xad X 95)), (1, .int a0)]) C dX9_drift_16 rfl (by decide) rfl ?_
    refine g_iconst (pc := 17) C dX9_drift_17 ic_iconst_0 ?_
    refine g_istore_n (pc := 18) (lv' := [(3, .int (0 : Int32)), (2, .int (0 : Int32)), (0, .ref (xad X 95)), (1, .int a0)]) C dX9_drift_18 rfl (by decide) rfl ?_
    refine g_sub (lv' := [(0, .ref (xad X 95)), (1, .int a0), (2, .int (0 : Int32)), (3, .int (0 : Int32))]) [2, 3, 1, 0] rfl ?_
    exact g_X9_drift_h19 C F a0 F (0 : Int32) (0 : Int32) M
  · refine g_ldc (pc := 12) C wk_X9_93 dX9_drift_12 ?_
    exact g_iret (pc := 14) C dX9_drift_14 rfl rfl

