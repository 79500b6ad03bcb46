/-! X1_choose -/
set_option maxRecDepth 100000 in
set_option maxHeartbeats 4000000 in
theorem g_X1_choose_b153 {X : gX} (C : gC X cX1_choose RX1 6 none 2 50) (F : Nat) (a0 : Nat) (na0 : Nat) (a1 : Int32) (ha0 : kd a0 = gKi na0) (k103 : Int32 → Int32 → gM → Option gM) (hk103 : ∀ (x3 : Int32) (x4 : Int32) (M : gM), G X (gQm X rvV rMV) 6 M [(0, .ref (xad X 43)), (2, .int a1), (3, .int x3), (4, .int x4)] [] 103 (k103 x3 x4 M)) (x4 : Int32) (x5 : Int32) (s0 : Int32) (M : gM) : G X (gQm X rvV rMV) 6 M [(0, .ref (xad X 43)), (2, .int a1), (4, .int x4), (5, .int x5)] [.int s0] 153 (f_X1_choose_b153 F a0 na0 a1 k103 x4 x5 s0 M) := by
  unfold f_X1_choose_b153
  refine g_istore_n (pc := 153) (lv' := [(3, .int s0), (0, .ref (xad X 43)), (2, .int a1), (4, .int x4), (5, .int x5)]) C dX1_choose_153 rfl (by decide) rfl ?_
  refine g_aload_n (pc := 154) C dX1_choose_154 rfl 1 rfl ?_
  refine gf_X1_26 (pc := 155) (u := 86) C kd_43 rfl dX1_choose_155 ?_
  refine g_iload (pc := 158) C dX1_choose_158 3 rfl ?_
  refine g_iload_n (pc := 160) C dX1_choose_160 rfl 0 rfl ?_
  refine g_iast (pc := 161) C kd_86 dX1_choose_161 ?_
  refine g_ltM (fun M6 => ?_)
  refine g_aload_n (pc := 162) C dX1_choose_162 rfl 1 rfl ?_
  refine g_iload (pc := 163) C dX1_choose_163 3 rfl ?_
  refine g_iload (pc := 165) C dX1_choose_165 4 rfl ?_
  refine g_iconst (pc := 167) C dX1_choose_167 ic_iconst_m1 ?_
  refine g_icmp_ne (pc := 168) (tgt := 175) C dX1_choose_168 (by decide) ?_ ?_
  · refine g_aload_n (pc := 175) C dX1_choose_175 rfl 1 rfl ?_
    refine gf_X1_20 (pc := 176) (u := 59) C kd_43 rfl dX1_choose_176 ?_
    refine g_iload (pc := 179) C dX1_choose_179 3 rfl ?_
    refine g_aaldh (pc := 181) C kd_59 dX1_choose_181 (fun hb7 => ?_)
    refine g_iload (pc := 182) C dX1_choose_182 4 rfl ?_
    refine g_iald (pc := 184) C (kg_59 hb7) dX1_choose_184 ?_
    refine g_callV (pc := 185) C (g_runV (stk := []) C (c_X1_giveLooks F x4 (M6 (rf 59 x4.toNatClampNeg) x5.toNatClampNeg) M6) rfl rfl rfl kd_43 rfl wC_X1_giveLooks wI_X1_giveLooks wV_X1_giveLooks wi_X1 wm_X1_97 hy_X1_giveLooks (by decide) (Nat.le_of_ble_eq_true rfl) dX1_choose_185) (fun r8 => ?_)
    refine g_iinc (pc := 188) (j := 3) (lv' := [(4, .int (x4 + (1 : Int32))), (3, .int s0), (0, .ref (xad X 43)), (2, .int a1), (5, .int x5)]) C dX1_choose_188 rfl (ii_1 _) (by decide) rfl ?_
    refine g_goto (pc := 191) (tgt := 103) C dX1_choose_191 (by decide) ?_
    refine g_sub (lv' := [(0, .ref (xad X 43)), (2, .int a1), (3, .int s0), (4, .int (x4 + (1 : Int32)))]) [2, 3, 1, 0] rfl ?_
    exact hk103 s0 (x4 + (1 : Int32)) r8
  · refine g_iconst (pc := 171) C dX1_choose_171 ic_iconst_0 ?_
    refine g_goto (pc := 172) (tgt := 185) C dX1_choose_172 (by decide) ?_
    refine g_callV (pc := 185) C (g_runV (stk := []) C (c_X1_giveLooks F x4 (0 : Int32) M6) rfl rfl rfl kd_43 rfl wC_X1_giveLooks wI_X1_giveLooks wV_X1_giveLooks wi_X1 wm_X1_97 hy_X1_giveLooks (by decide) (Nat.le_of_ble_eq_true rfl) dX1_choose_185) (fun r9 => ?_)
    refine g_iinc (pc := 188) (j := 3) (lv' := [(4, .int (x4 + (1 : Int32))), (3, .int s0), (0, .ref (xad X 43)), (2, .int a1), (5, .int x5)]) C dX1_choose_188 rfl (ii_1 _) (by decide) rfl ?_
    refine g_goto (pc := 191) (tgt := 103) C dX1_choose_191 (by decide) ?_
    refine g_sub (lv' := [(0, .ref (xad X 43)), (2, .int a1), (3, .int s0), (4, .int (x4 + (1 : Int32)))]) [2, 3, 1, 0] rfl ?_
    exact hk103 s0 (x4 + (1 : Int32)) r9

set_option maxRecDepth 100000 in
set_option maxHeartbeats 4000000 in
theorem g_X1_choose_b131 {X : gX} (C : gC X cX1_choose RX1 6 none 2 50) (F : Nat) (a0 : Nat) (na0 : Nat) (a1 : Int32) (ha0 : kd a0 = gKi na0) (k103 : Int32 → Int32 → gM → Option gM) (hk103 : ∀ (x3 : Int32) (x4 : Int32) (M : gM), G X (gQm X rvV rMV) 6 M [(0, .ref (xad X 43)), (2, .int a1), (3, .int x3), (4, .int x4)] [] 103 (k103 x3 x4 M)) (x4 : Int32) (s0 : Int32) (M : gM) : G X (gQm X rvV rMV) 6 M [(0, .ref (xad X 43)), (2, .int a1), (4, .int x4)] [.int s0] 131 (f_X1_choose_b131 F a0 na0 a1 k103 x4 s0 M) := by
  unfold f_X1_choose_b131
  refine g_istore (pc := 131) (lv' := [(5, .int s0), (0, .ref (xad X 43)), (2, .int a1), (4, .int x4)]) C dX1_choose_131 (by decide) rfl ?_
  refine g_iload (pc := 133) C dX1_choose_133 0 rfl ?_
  refine g_iconst (pc := 135) C dX1_choose_135 ic_iconst_m1 ?_
  refine g_icmp_ne (pc := 136) (tgt := 143) C dX1_choose_136 (by decide) ?_ ?_
  · refine g_aload_n (pc := 143) C dX1_choose_143 rfl 1 rfl ?_
    refine gf_X1_17 (pc := 144) (u := 45) C kd_43 rfl dX1_choose_144 ?_
    refine g_iload (pc := 147) C dX1_choose_147 3 rfl ?_
    refine g_aaldh (pc := 149) C kd_45 dX1_choose_149 (fun hb5 => ?_)
    refine g_iload (pc := 150) C dX1_choose_150 0 rfl ?_
    refine g_iald (pc := 152) C (kg_45 hb5) dX1_choose_152 ?_
    refine g_sub (lv' := [(0, .ref (xad X 43)), (2, .int a1), (4, .int x4), (5, .int s0)]) [1, 2, 3, 0] rfl ?_
    exact g_X1_choose_b153 C F a0 na0 a1 ha0 k103 hk103 x4 s0 (M (rf 45 x4.toNatClampNeg) s0.toNatClampNeg) M
  · refine g_iconst (pc := 139) C dX1_choose_139 ic_iconst_0 ?_
    refine g_goto (pc := 140) (tgt := 153) C dX1_choose_140 (by decide) ?_
    refine g_sub (lv' := [(0, .ref (xad X 43)), (2, .int a1), (4, .int x4), (5, .int s0)]) [1, 2, 3, 0] rfl ?_
    exact g_X1_choose_b153 C F a0 na0 a1 ha0 k103 hk103 x4 s0 (0 : Int32) M

set_option maxRecDepth 100000 in
set_option maxHeartbeats 4000000 in
theorem g_X1_choose_h103_b {X : gX} (C : gC X cX1_choose RX1 6 none 2 50) (F : Nat) (a0 : Nat) (na0 : Nat) (a1 : Int32) (ha0 : kd a0 = gKi na0) (k103 : Int32 → Int32 → gM → Option gM) (hk103 : ∀ (x3 : Int32) (x4 : Int32) (M : gM), G X (gQm X rvV rMV) 6 M [(0, .ref (xad X 43)), (2, .int a1), (3, .int x3), (4, .int x4)] [] 103 (k103 x3 x4 M)) (x3 : Int32) (x4 : Int32) (M : gM) : G X (gQm X rvV rMV) 6 M [(0, .ref (xad X 43)), (2, .int a1), (3, .int x3), (4, .int x4)] [] 103 (f_X1_choose_h103_b F a0 na0 a1 k103 x3 x4 M) := by
  unfold f_X1_choose_h103_b
  refine g_iload (pc := 103) C dX1_choose_103 3 rfl ?_
  refine g_bipush (pc := 105) C dX1_choose_105 ic_bipush_12 ?_
  refine g_icmp_ge (pc := 107) (tgt := 194) C dX1_choose_107 (by decide) ?_ ?_
  · refine g_aload_n (pc := 194) C dX1_choose_194 rfl 0 rfl ?_
    refine gf_X1_91 (pc := 195) C kd_43 dX1_choose_195 ?_
    refine g_ldc (pc := 198) C wk_X1_86 dX1_choose_198 ?_
    refine g_icmp_ne (pc := 200) (tgt := 208) C dX1_choose_200 (by decide) ?_ ?_
    · exact g_vret (pc := 208) C dX1_choose_208 rfl rfl
    · refine g_aload_n (pc := 203) C dX1_choose_203 rfl 0 rfl ?_
      refine g_iconst (pc := 204) C dX1_choose_204 ic_iconst_m1 ?_
      refine gp_X1_91 (pc := 205) C kd_43 dX1_choose_205 ?_
      refine g_ltM (fun M3 => ?_)
      exact g_vret (pc := 208) C dX1_choose_208 rfl rfl
  · refine g_aload_n (pc := 110) C dX1_choose_110 rfl 0 rfl ?_
    refine gf_X1_91 (pc := 111) C kd_43 dX1_choose_111 ?_
    refine g_ldc (pc := 114) C wk_X1_86 dX1_choose_114 ?_
    refine g_icmp_ne (pc := 116) (tgt := 123) C dX1_choose_116 (by decide) ?_ ?_
    · refine g_aload_n (pc := 123) C dX1_choose_123 rfl 0 rfl ?_
      refine g_iload (pc := 124) C dX1_choose_124 3 rfl ?_
      refine g_iload_n (pc := 126) C dX1_choose_126 rfl 2 rfl ?_
      refine g_iload_n (pc := 127) C dX1_choose_127 rfl 1 rfl ?_
      refine g_callR (pc := 128) C (g_runV (stk := []) C (c_X1_firstCheapest F x4 x3 a1 M) rfl rfl rfl kd_43 rfl wC_X1_firstCheapest wI_X1_firstCheapest wV_X1_firstCheapest wi_X1 wm_X1_94 hy_X1_firstCheapest (by decide) (Nat.le_of_ble_eq_true rfl) dX1_choose_128) (fun r4 => ?_)
      refine g_sub (lv' := [(0, .ref (xad X 43)), (2, .int a1), (4, .int x4)]) [0, 1, 3] rfl ?_
      exact g_X1_choose_b131 C F a0 na0 a1 ha0 k103 hk103 x4 r4 M
    · refine g_iconst (pc := 119) C dX1_choose_119 ic_iconst_m1 ?_
      refine g_goto (pc := 120) (tgt := 131) C dX1_choose_120 (by decide) ?_
      refine g_sub (lv' := [(0, .ref (xad X 43)), (2, .int a1), (4, .int x4)]) [0, 1, 3] rfl ?_
      exact g_X1_choose_b131 C F a0 na0 a1 ha0 k103 hk103 x4 (-1 : Int32) M

theorem g_X1_choose_h103 {X : gX} (C : gC X cX1_choose RX1 6 none 2 50) (F : Nat) (a0 : Nat) (na0 : Nat) (a1 : Int32) (ha0 : kd a0 = gKi na0) : ∀ (n : Nat) (x3 : Int32) (x4 : Int32) (M : gM), G X (gQm X rvV rMV) 6 M [(0, .ref (xad X 43)), (2, .int a1), (3, .int x3), (4, .int x4)] [] 103 (f_X1_choose_h103 F a0 na0 a1 n x3 x4 M) := by
  intro n
  induction n with
  | zero =>
    intro x3 x4 M r hr
    have hr2 : (none : Option gM) = some r := hr
    cases hr2
  | succ n ih =>
    intro x3 x4 M
    exact g_X1_choose_h103_b C F a0 na0 a1 ha0 _ ih x3 x4 M
set_option maxRecDepth 100000 in
set_option maxHeartbeats 4000000 in
theorem g_X1_choose_h10_b {X : gX} (C : gC X cX1_choose RX1 6 none 2 50) (F : Nat) (a0 : Nat) (na0 : Nat) (a1 : Int32) (ha0 : kd a0 = gKi na0) (k3 : Int32 → gM → Option gM) (hk3 : ∀ (x3 : Int32) (M : gM), G X (gQm X rvV rMV) 6 M [(0, .ref (xad X 43)), (1, .ref (xad X a0)), (2, .int a1), (3, .int x3)] [] 3 (k3 x3 M)) (k10 : Int32 → Int32 → gM → Option gM) (hk10 : ∀ (x3 : Int32) (x4 : Int32) (M : gM), G X (gQm X rvV rMV) 6 M [(0, .ref (xad X 43)), (1, .ref (xad X a0)), (2, .int a1), (3, .int x3), (4, .int x4)] [] 10 (k10 x3 x4 M)) (x3 : Int32) (x4 : Int32) (M : gM) : G X (gQm X rvV rMV) 6 M [(0, .ref (xad X 43)), (1, .ref (xad X a0)), (2, .int a1), (3, .int x3), (4, .int x4)] [] 10 (f_X1_choose_h10_b F a0 na0 a1 k3 k10 x3 x4 M) := by
  unfold f_X1_choose_h10_b
  refine g_iload (pc := 10) C dX1_choose_10 4 rfl ?_
  refine g_aload_n (pc := 12) C dX1_choose_12 rfl 0 rfl ?_
  refine gf_X1_9 (pc := 13) (u := 44) C kd_43 rfl dX1_choose_13 ?_
  refine g_iload_n (pc := 16) C dX1_choose_16 rfl 3 rfl ?_
  refine g_iald (pc := 17) C kd_44 dX1_choose_17 ?_
  refine g_icmp_ge (pc := 18) (tgt := 81) C dX1_choose_18 (by decide) ?_ ?_
  · refine g_iinc (pc := 81) (j := 3) (lv' := [(3, .int (x3 + (-1 : Int32))), (0, .ref (xad X 43)), (1, .ref (xad X a0)), (2, .int a1), (4, .int x4)]) C dX1_choose_81 rfl (ii_m1 _) (by decide) rfl ?_
    refine g_goto (pc := 84) (tgt := 3) C dX1_choose_84 (by decide) ?_
    refine g_sub (lv' := [(0, .ref (xad X 43)), (1, .ref (xad X a0)), (2, .int a1), (3, .int (x3 + (-1 : Int32)))]) [1, 2, 3, 0] rfl ?_
    exact hk3 (x3 + (-1 : Int32)) M
  · refine g_aload_n (pc := 21) C dX1_choose_21 rfl 0 rfl ?_
    refine g_iload_n (pc := 22) C dX1_choose_22 rfl 3 rfl ?_
    refine g_aload_n (pc := 23) C dX1_choose_23 rfl 0 rfl ?_
    refine gf_X1_17 (pc := 24) (u := 45) C kd_43 rfl dX1_choose_24 ?_
    refine g_iload_n (pc := 27) C dX1_choose_27 rfl 3 rfl ?_
    refine g_aaldh (pc := 28) C kd_45 dX1_choose_28 (fun hb10 => ?_)
    refine g_iload (pc := 29) C dX1_choose_29 4 rfl ?_
    refine g_iald (pc := 31) C (kg_45 hb10) dX1_choose_31 ?_
    refine g_iload_n (pc := 32) C dX1_choose_32 rfl 2 rfl ?_
    refine g_callR (pc := 33) C (g_runV (stk := []) C (c_X1_cheapestAfter F x3 (M (rf 45 x3.toNatClampNeg) x4.toNatClampNeg) a1 M) rfl rfl rfl kd_43 rfl wC_X1_cheapestAfter wI_X1_cheapestAfter wV_X1_cheapestAfter wi_X1 wm_X1_82 hy_X1_cheapestAfter (by decide) (Nat.le_of_ble_eq_true rfl) dX1_choose_33) (fun r11 => ?_)
    refine g_istore (pc := 36) (lv' := [(5, .int r11), (0, .ref (xad X 43)), (1, .ref (xad X a0)), (2, .int a1), (3, .int x3), (4, .int x4)]) C dX1_choose_36 (by decide) rfl ?_
    refine g_aload_n (pc := 38) C dX1_choose_38 rfl 1 rfl ?_
    refine gf_X1_23 (pc := 39) (u := 73) C kd_43 rfl dX1_choose_39 ?_
    refine g_iload_n (pc := 42) C dX1_choose_42 rfl 4 rfl ?_
    refine g_aaldh (pc := 43) C kd_73 dX1_choose_43 (fun hb12 => ?_)
    refine g_iload (pc := 44) C dX1_choose_44 5 rfl ?_
    refine g_iload (pc := 46) C dX1_choose_46 0 rfl ?_
    refine g_ldc (pc := 48) C wk_X1_86 dX1_choose_48 ?_
    refine g_icmp_ne (pc := 50) (tgt := 58) C dX1_choose_50 (by decide) ?_ ?_
    · refine g_iload (pc := 58) C dX1_choose_58 0 rfl ?_
      refine g_aload_n (pc := 60) C dX1_choose_60 rfl 1 rfl ?_
      refine gf_X1_17 (pc := 61) (u := 45) C kd_43 rfl dX1_choose_61 ?_
      refine g_iload_n (pc := 64) C dX1_choose_64 rfl 4 rfl ?_
      refine g_aaldh (pc := 65) C kd_45 dX1_choose_65 (fun hb13 => ?_)
      refine g_iload (pc := 66) C dX1_choose_66 5 rfl ?_
      refine g_iald (pc := 68) C (kg_45 hb13) dX1_choose_68 ?_
      refine g_aload_n (pc := 69) C dX1_choose_69 rfl 2 rfl ?_
      refine g_callR (pc := 70) C (g_runSN (stk := [.int r11, .int x4, .ref (xad X (rf 73 x3.toNatClampNeg))]) C (c_X8_sumOver F (M (rf 45 x3.toNatClampNeg) x4.toNatClampNeg) a0 na0 ha0 M) rfl rfl rfl wC_X8_sumOver wS_X8_sumOver wi_X8 wnm_X1_87 hy_X8_sumOver (by decide) (Nat.le_of_ble_eq_true rfl) dX1_choose_70) (fun r14 => ?_)
      refine g_iadd (pc := 73) C dX1_choose_73 ?_
      refine g_iast (pc := 74) C (kg_73 hb12) dX1_choose_74 ?_
      refine g_ltM (fun M15 => ?_)
      refine g_iinc (pc := 75) (j := 5) (lv' := [(4, .int (x4 + (1 : Int32))), (5, .int r11), (0, .ref (xad X 43)), (1, .ref (xad X a0)), (2, .int a1), (3, .int x3)]) C dX1_choose_75 rfl (ii_1 _) (by decide) rfl ?_
      refine g_goto (pc := 78) (tgt := 10) C dX1_choose_78 (by decide) ?_
      refine g_sub (lv' := [(0, .ref (xad X 43)), (1, .ref (xad X a0)), (2, .int a1), (3, .int x3), (4, .int (x4 + (1 : Int32)))]) [2, 3, 4, 5, 0] rfl ?_
      exact hk10 x3 (x4 + (1 : Int32)) M15
    · refine g_ldc (pc := 53) C wk_X1_86 dX1_choose_53 ?_
      refine g_goto (pc := 55) (tgt := 74) C dX1_choose_55 (by decide) ?_
      refine g_iast (pc := 74) C (kg_73 hb12) dX1_choose_74 ?_
      refine g_ltM (fun M16 => ?_)
      refine g_iinc (pc := 75) (j := 5) (lv' := [(4, .int (x4 + (1 : Int32))), (5, .int r11), (0, .ref (xad X 43)), (1, .ref (xad X a0)), (2, .int a1), (3, .int x3)]) C dX1_choose_75 rfl (ii_1 _) (by decide) rfl ?_
      refine g_goto (pc := 78) (tgt := 10) C dX1_choose_78 (by decide) ?_
      refine g_sub (lv' := [(0, .ref (xad X 43)), (1, .ref (xad X a0)), (2, .int a1), (3, .int x3), (4, .int (x4 + (1 : Int32)))]) [2, 3, 4, 5, 0] rfl ?_
      exact hk10 x3 (x4 + (1 : Int32)) M16

theorem g_X1_choose_h10 {X : gX} (C : gC X cX1_choose RX1 6 none 2 50) (F : Nat) (a0 : Nat) (na0 : Nat) (a1 : Int32) (ha0 : kd a0 = gKi na0) (k3 : Int32 → gM → Option gM) (hk3 : ∀ (x3 : Int32) (M : gM), G X (gQm X rvV rMV) 6 M [(0, .ref (xad X 43)), (1, .ref (xad X a0)), (2, .int a1), (3, .int x3)] [] 3 (k3 x3 M)) : ∀ (n : Nat) (x3 : Int32) (x4 : Int32) (M : gM), G X (gQm X rvV rMV) 6 M [(0, .ref (xad X 43)), (1, .ref (xad X a0)), (2, .int a1), (3, .int x3), (4, .int x4)] [] 10 (f_X1_choose_h10 F a0 na0 a1 k3 n x3 x4 M) := by
  intro n
  induction n with
  | zero =>
    intro x3 x4 M r hr
    have hr2 : (none : Option gM) = some r := hr
    cases hr2
  | succ n ih =>
    intro x3 x4 M
    exact g_X1_choose_h10_b C F a0 na0 a1 ha0 k3 hk3 _ ih x3 x4 M
set_option maxRecDepth 100000 in
set_option maxHeartbeats 4000000 in
theorem g_X1_choose_h3_b {X : gX} (C : gC X cX1_choose RX1 6 none 2 50) (F : Nat) (a0 : Nat) (na0 : Nat) (a1 : Int32) (ha0 : kd a0 = gKi na0) (k3 : Int32 → gM → Option gM) (hk3 : ∀ (x3 : Int32) (M : gM), G X (gQm X rvV rMV) 6 M [(0, .ref (xad X 43)), (1, .ref (xad X a0)), (2, .int a1), (3, .int x3)] [] 3 (k3 x3 M)) (x3 : Int32) (M : gM) : G X (gQm X rvV rMV) 6 M [(0, .ref (xad X 43)), (1, .ref (xad X a0)), (2, .int a1), (3, .int x3)] [] 3 (f_X1_choose_h3_b F a0 na0 a1 k3 x3 M) := by
  unfold f_X1_choose_h3_b
  refine g_iload_n (pc := 3) C dX1_choose_3 rfl 3 rfl ?_
  refine g_if_lt (pc := 4) (tgt := 87) C dX1_choose_4 (by decide) ?_ ?_
  · refine g_aload_n (pc := 87) C dX1_choose_87 rfl 0 rfl ?_
    refine g_aload_n (pc := 88) C dX1_choose_88 rfl 0 rfl ?_
    refine g_iconst (pc := 89) C dX1_choose_89 ic_iconst_m1 ?_
    refine g_iconst (pc := 90) C dX1_choose_90 ic_iconst_0 ?_
    refine g_iload_n (pc := 91) C dX1_choose_91 rfl 2 rfl ?_
    refine g_callR (pc := 92) C (g_runV (stk := [.ref (xad X 43)]) C (c_X1_cheapestAfter F (-1 : Int32) (0 : Int32) a1 M) rfl rfl rfl kd_43 rfl wC_X1_cheapestAfter wI_X1_cheapestAfter wV_X1_cheapestAfter wi_X1 wm_X1_82 hy_X1_cheapestAfter (by decide) (Nat.le_of_ble_eq_true rfl) dX1_choose_92) (fun r1 => ?_)
    refine gp_X1_91 (pc := 95) C kd_43 dX1_choose_95 ?_
    refine g_ltM (fun M2 => ?_)
    refine g_iconst (pc := 98) C dX1_choose_98 ic_iconst_0 ?_
    refine g_istore_n (pc := 99) (lv' := [(3, .int (0 : Int32)), (0, .ref (xad X 43)), (1, .ref (xad X a0)), (2, .int a1)]) C dX1_choose_99 rfl (by decide) rfl ?_
    refine g_iconst (pc := 100) C dX1_choose_100 ic_iconst_0 ?_
    refine g_istore (pc := 101) (lv' := [(4, .int (0 : Int32)), (3, .int (0 : Int32)), (0, .ref (xad X 43)), (1, .ref (xad X a0)), (2, .int a1)]) C dX1_choose_101 (by decide) rfl ?_
    refine g_sub (lv' := [(0, .ref (xad X 43)), (2, .int a1), (3, .int (0 : Int32)), (4, .int (0 : Int32))]) [2, 4, 1, 0] rfl ?_
    exact g_X1_choose_h103 C F a0 na0 a1 ha0 F (0 : Int32) (0 : Int32) M2
  · refine g_iconst (pc := 7) C dX1_choose_7 ic_iconst_0 ?_
    refine g_istore (pc := 8) (lv' := [(4, .int (0 : Int32)), (0, .ref (xad X 43)), (1, .ref (xad X a0)), (2, .int a1), (3, .int x3)]) C dX1_choose_8 (by decide) rfl ?_
    refine g_sub (lv' := [(0, .ref (xad X 43)), (1, .ref (xad X a0)), (2, .int a1), (3, .int x3), (4, .int (0 : Int32))]) [1, 2, 3, 4, 0] rfl ?_
    exact g_X1_choose_h10 C F a0 na0 a1 ha0 k3 hk3 F x3 (0 : Int32) M

theorem g_X1_choose_h3 {X : gX} (C : gC X cX1_choose RX1 6 none 2 50) (F : Nat) (a0 : Nat) (na0 : Nat) (a1 : Int32) (ha0 : kd a0 = gKi na0) : ∀ (n : Nat) (x3 : Int32) (M : gM), G X (gQm X rvV rMV) 6 M [(0, .ref (xad X 43)), (1, .ref (xad X a0)), (2, .int a1), (3, .int x3)] [] 3 (f_X1_choose_h3 F a0 na0 a1 n x3 M) := by
  intro n
  induction n with
  | zero =>
    intro x3 M r hr
    have hr2 : (none : Option gM) = some r := hr
    cases hr2
  | succ n ih =>
    intro x3 M
    exact g_X1_choose_h3_b C F a0 na0 a1 ha0 _ ih x3 M
set_option maxRecDepth 100000 in
set_option maxHeartbeats 4000000 in
theorem c_X1_choose (F : Nat) (a0 : Nat) (na0 : Nat) (a1 : Int32) (ha0 : kd a0 = gKi na0) (M : gM) : gCt yX1_choose cX1_choose 6 none 2 50 (fun ad K V => [.ref (ad 43), .ref (ad a0), .int a1]) rvV rMV M (f_X1_choose F a0 na0 a1 M) := by
  refine g_met (y := yX1_choose) (by decide +kernel) (fun _ _ _ => Nat.le_of_ble_eq_true rfl) (fun X C => ?_)
  show G X (gQm X rvV rMV) 6 M [(0, .ref (xad X 43)), (1, .ref (xad X a0)), (2, .int a1)] [] 0 (f_X1_choose F a0 na0 a1 M)
  unfold f_X1_choose
  refine g_bipush (pc := 0) C dX1_choose_0 ic_bipush_11 ?_
  refine g_istore_n (pc := 2) (lv' := [(3, .int (11 : Int32)), (0, .ref (xad X 43)), (1, .ref (xad X a0)), (2, .int a1)]) C dX1_choose_2 rfl (by decide) rfl ?_
  refine g_sub (lv' := [(0, .ref (xad X 43)), (1, .ref (xad X a0)), (2, .int a1), (3, .int (11 : Int32))]) [1, 2, 3, 0] rfl ?_
  exact g_X1_choose_h3 C F a0 na0 a1 ha0 F (11 : Int32) M

/-! X8_copyRow -/
set_option maxRecDepth 100000 in
set_option maxHeartbeats 4000000 in
theorem g_X8_copyRow_h10_b {X : gX} (C : gC X cX8_copyRow RX8 4 none 1 19) (F : Nat) (a0 : Nat) (na0 : Nat) (a1 : Nat) (na1 : Nat) (ha0 : kd a0 = gKi na0) (ha1 : kd a1 = gKi na1) (k10 : Int32 → Int32 → gM → Option gM) (hk10 : ∀ (x2 : Int32) (x3 : Int32) (M : gM), G X (gQm X rvV rMV) 4 M [(0, .ref (xad X a0)), (1, .ref (xad X a1)), (2, .int x2), (3, .int x3)] [] 10 (k10 x2 x3 M)) (x2 : Int32) (x3 : Int32) (M : gM) : G X (gQm X rvV rMV) 4 M [(0, .ref (xad X a0)), (1, .ref (xad X a1)), (2, .int x2), (3, .int x3)] [] 10 (f_X8_copyRow_h10_b F a0 na0 a1 na1 k10 x2 x3 M) := by
  unfold f_X8_copyRow_h10_b
  refine g_iload_n (pc := 10) C dX8_copyRow_10 rfl 3 rfl ?_
  refine g_iload_n (pc := 11) C dX8_copyRow_11 rfl 2 rfl ?_
  refine g_icmp_ge (pc := 12) (tgt := 27) C dX8_copyRow_12 (by decide) ?_ ?_
  · exact g_vret (pc := 27) C dX8_copyRow_27 rfl rfl
  · refine g_aload_n (pc := 15) C dX8_copyRow_15 rfl 1 rfl ?_
    refine g_iload_n (pc := 16) C dX8_copyRow_16 rfl 3 rfl ?_
    refine g_aload_n (pc := 17) C dX8_copyRow_17 rfl 0 rfl ?_
    refine g_iload_n (pc := 18) C dX8_copyRow_18 rfl 3 rfl ?_
    refine g_iald (pc := 19) C ha0 dX8_copyRow_19 ?_
    refine g_iast (pc := 20) C ha1 dX8_copyRow_20 ?_
    refine g_ltM (fun M2 => ?_)
    refine g_iinc (pc := 21) (j := 3) (lv' := [(3, .int (x3 + (1 : Int32))), (0, .ref (xad X a0)), (1, .ref (xad X a1)), (2, .int x2)]) C dX8_copyRow_21 rfl (ii_1 _) (by decide) rfl ?_
    refine g_goto (pc := 24) (tgt := 10) C dX8_copyRow_24 (by decide) ?_
    refine g_sub (lv' := [(0, .ref (xad X a0)), (1, .ref (xad X a1)), (2, .int x2), (3, .int (x3 + (1 : Int32)))]) [1, 2, 3, 0] rfl ?_
    exact hk10 x2 (x3 + (1 : Int32)) M2

theorem g_X8_copyRow_h10 {X : gX} (C : gC X cX8_copyRow RX8 4 none 1 19) (F : Nat) (a0 : Nat) (na0 : Nat) (a1 : Nat) (na1 : Nat) (ha0 : kd a0 = gKi na0) (ha1 : kd a1 = gKi na1) : ∀ (n : Nat) (x2 : Int32) (x3 : Int32) (M : gM), G X (gQm X rvV rMV) 4 M [(0, .ref (xad X a0)), (1, .ref (xad X a1)), (2, .int x2), (3, .int x3)] [] 10 (f_X8_copyRow_h10 F a0 na0 a1 na1 n x2 x3 M) := by
  intro n
  induction n with
  | zero =>
    intro x2 x3 M r hr
    have hr2 : (none : Option gM) = some r := hr
    cases hr2
  | succ n ih =>
    intro x2 x3 M
    exact g_X8_copyRow_h10_b C F a0 na0 a1 na1 ha0 ha1 _ ih x2 x3 M
set_option maxRecDepth 100000 in
set_option maxHeartbeats 4000000 in
theorem c_X8_copyRow (F : Nat) (a0 : Nat) (na0 : Nat) (a1 : Nat) (na1 : Nat) (ha0 : kd a0 = gKi na0) (ha1 : kd a1 = gKi na1) (M : gM) : gCt yX8_copyRow cX8_copyRow 4 none 1 19 (fun ad K V => [.ref (ad a0), .ref (ad a1)]) rvV rMV M (f_X8_copyRow F a0 na0 a1 na1 M) := by
  refine g_met (y := yX8_copyRow) (by decide +kernel) (fun _ _ _ => Nat.le_of_ble_eq_true rfl) (fun X C => ?_)
  show G X (gQm X rvV rMV) 4 M [(0, .ref (xad X a0)), (1, .ref (xad X a1))] [] 0 (f_X8_copyRow F a0 na0 a1 na1 M)
  unfold f_X8_copyRow
  refine g_aload_n (pc := 0) C dX8_copyRow_0 rfl 0 rfl ?_
  refine g_alen (pc := 1) C ha0 rfl dX8_copyRow_1 ?_
  refine g_aload_n (pc := 2) C dX8_copyRow_2 rfl 1 rfl ?_
  refine g_alen (pc := 3) C ha1 rfl dX8_copyRow_3 ?_
  refine g_mmin (pc := 4) C (by decide) (Nat.le_of_ble_eq_true rfl) wm_X8_271 wS_J9_min_7cf53 wi_J9 wC_J9_min_7cf53 dX8_copyRow_4 ?_
  refine g_lt (fun v1 => ?_)
  refine g_istore_n (pc := 7) (lv' := [(2, .int v1), (0, .ref (xad X a0)), (1, .ref (xad X a1))]) C dX8_copyRow_7 rfl (by decide) rfl ?_
  refine g_iconst (pc := 8) C dX8_copyRow_8 ic_iconst_0 ?_
  refine g_istore_n (pc := 9) (lv' := [(3, .int (0 : Int32)), (2, .int v1), (0, .ref (xad X a0)), (1, .ref (xad X a1))]) C dX8_copyRow_9 rfl (by decide) rfl ?_
  refine g_sub (lv' := [(0, .ref (xad X a0)), (1, .ref (xad X a1)), (2, .int v1), (3, .int (0 : Int32))]) [2, 3, 1, 0] rfl ?_
  exact g_X8_copyRow_h10 C F a0 na0 a1 na1 ha0 ha1 F v1 (0 : Int32) M

/-! X7_hasScene -/
set_option maxRecDepth 100000 in
set_option maxHeartbeats 4000000 in
theorem c_X7_hasScene (t : Nat) (a0 : Int32) (ht : kd t = gKo 7) (M : gM) : gCt yX7_hasScene cX7_hasScene 2 (some .boolean) 0 0 (fun ad K V => [.ref (ad t), .int a0]) rvR (rMR M) M (f_X7_hasScene t a0 M) := by
  refine g_met (y := yX7_hasScene) (by decide +kernel) (fun _ _ _ => Nat.le_of_ble_eq_true rfl) (fun X C => ?_)
  show G X (gQm X rvR (rMR M)) 2 M [(0, .ref (xad X t)), (1, .int a0)] [] 0 (f_X7_hasScene t a0 M)
  unfold f_X7_hasScene
  refine g_iload_n (pc := 0) C dX7_hasScene_0 rfl 1 rfl ?_
  refine g_if_lt (pc := 1) (tgt := 16) C dX7_hasScene_1 (by decide) ?_ ?_
  · refine g_iconst (pc := 16) C dX7_hasScene_16 ic_iconst_0 ?_
    exact g_zretk (pc := 17) C rfl dX7_hasScene_17 rfl rfl
  · refine g_iload_n (pc := 4) C dX7_hasScene_4 rfl 1 rfl ?_
    refine g_aload_n (pc := 5) C dX7_hasScene_5 rfl 0 rfl ?_
    refine gf_X7_50 (pc := 6) C ht dX7_hasScene_6 ?_
    refine g_icmp_ge (pc := 9) (tgt := 16) C dX7_hasScene_9 (by decide) ?_ ?_
    · refine g_iconst (pc := 16) C dX7_hasScene_16 ic_iconst_0 ?_
      exact g_zretk (pc := 17) C rfl dX7_hasScene_17 rfl rfl
    · refine g_iconst (pc := 12) C dX7_hasScene_12 ic_iconst_1 ?_
      refine g_goto (pc := 13) (tgt := 17) C dX7_hasScene_13 (by decide) ?_
      exact g_zretk (pc := 17) C rfl dX7_hasScene_17 rfl rfl

/-! X2_partsOf -/
set_option maxRecDepth 100000 in
set_option maxHeartbeats 4000000 in
theorem c_X2_partsOf (a0 : Int32)  (M : gM) : gCt yX2_partsOf cX2_partsOf 2 (some .int) 0 0 (fun ad K V => [.ref (ad 39), .int a0]) rvR (rMR M) M (f_X2_partsOf a0 M) := by
  refine g_met (y := yX2_partsOf) (by decide +kernel) (fun _ _ _ => Nat.le_of_ble_eq_true rfl) (fun X C => ?_)
  show G X (gQm X rvR (rMR M)) 2 M [(0, .ref (xad X 39)), (1, .int a0)] [] 0 (f_X2_partsOf a0 M)
  unfold f_X2_partsOf
  refine g_iload_n (pc := 0) C dX2_partsOf_0 rfl 1 rfl ?_
  refine g_if_lt (pc := 1) (tgt := 41) C dX2_partsOf_1 (by decide) ?_ ?_
  · refine g_iconst (pc := 41) C dX2_partsOf_41 ic_iconst_0 ?_
    exact g_iret (pc := 42) C dX2_partsOf_42 rfl rfl
  · refine g_iload_n (pc := 4) C dX2_partsOf_4 rfl 1 rfl ?_
    refine g_aload_n (pc := 5) C dX2_partsOf_5 rfl 0 rfl ?_
    refine gf_X2_29 (pc := 6) C kd_39 dX2_partsOf_6 ?_
    refine g_icmp_ge (pc := 9) (tgt := 41) C dX2_partsOf_9 (by decide) ?_ ?_
    · refine g_iconst (pc := 41) C dX2_partsOf_41 ic_iconst_0 ?_
      exact g_iret (pc := 42) C dX2_partsOf_42 rfl rfl
    · refine g_iconst (pc := 12) C dX2_partsOf_12 ic_iconst_1 ?_
      refine g_aload_n (pc := 13) C dX2_partsOf_13 rfl 0 rfl ?_
      refine gf_X2_11 (pc := 14) (u := 40) C kd_39 rfl dX2_partsOf_14 ?_
      refine g_iload_n (pc := 17) C dX2_partsOf_17 rfl 1 rfl ?_
      refine g_iald (pc := 18) C kd_40 dX2_partsOf_18 ?_
      refine g_ishl (pc := 19) C dX2_partsOf_19 ?_
      refine g_iconst (pc := 20) C dX2_partsOf_20 ic_iconst_1 ?_
      refine g_aload_n (pc := 21) C dX2_partsOf_21 rfl 0 rfl ?_
      refine gf_X2_15 (pc := 22) (u := 41) C kd_39 rfl dX2_partsOf_22 ?_
      refine g_iload_n (pc := 25) C dX2_partsOf_25 rfl 1 rfl ?_
      refine g_iald (pc := 26) C kd_41 dX2_partsOf_26 ?_
      refine g_ishl (pc := 27) C dX2_partsOf_27 ?_
      refine g_ior (pc := 28) C dX2_partsOf_28 ?_
      refine g_iconst (pc := 29) C dX2_partsOf_29 ic_iconst_1 ?_
      refine g_aload_n (pc := 30) C dX2_partsOf_30 rfl 0 rfl ?_
      refine gf_X2_18 (pc := 31) (u := 42) C kd_39 rfl dX2_partsOf_31 ?_
      refine g_iload_n (pc := 34) C dX2_partsOf_34 rfl 1 rfl ?_
      refine g_iald (pc := 35) C kd_42 dX2_partsOf_35 ?_
      refine g_ishl (pc := 36) C dX2_partsOf_36 ?_
      refine g_ior (pc := 37) C dX2_partsOf_37 ?_
      refine g_goto (pc := 38) (tgt := 42) C dX2_partsOf_38 (by decide) ?_
      exact g_iret (pc := 42) C dX2_partsOf_42 rfl rfl

/-! X2_sumOf -/
set_option maxRecDepth 100000 in
set_option maxHeartbeats 4000000 in
theorem c_X2_sumOf (a0 : Int32) (a1 : Nat) (na1 : Nat) (ha1 : kd a1 = gKi na1) (M : gM) : gCt yX2_sumOf cX2_sumOf 3 (some .int) 0 0 (fun ad K V => [.ref (ad 39), .int a0, .ref (ad a1)]) rvR (rMR M) M (f_X2_sumOf a0 a1 na1 M) := by
  refine g_met (y := yX2_sumOf) (by decide +kernel) (fun _ _ _ => Nat.le_of_ble_eq_true rfl) (fun X C => ?_)
  show G X (gQm X rvR (rMR M)) 3 M [(0, .ref (xad X 39)), (1, .int a0), (2, .ref (xad X a1))] [] 0 (f_X2_sumOf a0 a1 na1 M)
  unfold f_X2_sumOf
  refine g_iload_n (pc := 0) C dX2_sumOf_0 rfl 1 rfl ?_
  refine g_if_lt (pc := 1) (tgt := 19) C dX2_sumOf_1 (by decide) ?_ ?_
  · refine g_iconst (pc := 19) C dX2_sumOf_19 ic_iconst_0 ?_
    exact g_iret (pc := 20) C dX2_sumOf_20 rfl rfl
  · refine g_iload_n (pc := 4) C dX2_sumOf_4 rfl 1 rfl ?_
    refine g_aload_n (pc := 5) C dX2_sumOf_5 rfl 0 rfl ?_
    refine gf_X2_29 (pc := 6) C kd_39 dX2_sumOf_6 ?_
    refine g_icmp_ge (pc := 9) (tgt := 19) C dX2_sumOf_9 (by decide) ?_ ?_
    · refine g_iconst (pc := 19) C dX2_sumOf_19 ic_iconst_0 ?_
      exact g_iret (pc := 20) C dX2_sumOf_20 rfl rfl
    · refine g_aload_n (pc := 12) C dX2_sumOf_12 rfl 2 rfl ?_
      refine g_alen (pc := 13) C ha1 rfl dX2_sumOf_13 ?_
      refine g_bipush (pc := 14) C dX2_sumOf_14 ic_bipush_10 ?_
      refine g_icmp_ge (pc := 16) (tgt := 21) C dX2_sumOf_16 (by decide) ?_ ?_
      · refine g_aload_n (pc := 21) C dX2_sumOf_21 rfl 2 rfl ?_
        refine g_aload_n (pc := 22) C dX2_sumOf_22 rfl 0 rfl ?_
        refine gf_X2_11 (pc := 23) (u := 40) C kd_39 rfl dX2_sumOf_23 ?_
        refine g_iload_n (pc := 26) C dX2_sumOf_26 rfl 1 rfl ?_
        refine g_iald (pc := 27) C kd_40 dX2_sumOf_27 ?_
        refine g_iald (pc := 28) C ha1 dX2_sumOf_28 ?_
        refine g_aload_n (pc := 29) C dX2_sumOf_29 rfl 2 rfl ?_
        refine g_aload_n (pc := 30) C dX2_sumOf_30 rfl 0 rfl ?_
        refine gf_X2_15 (pc := 31) (u := 41) C kd_39 rfl dX2_sumOf_31 ?_
        refine g_iload_n (pc := 34) C dX2_sumOf_34 rfl 1 rfl ?_
        refine g_iald (pc := 35) C kd_41 dX2_sumOf_35 ?_
        refine g_iald (pc := 36) C ha1 dX2_sumOf_36 ?_
        refine g_iadd (pc := 37) C dX2_sumOf_37 ?_
        refine g_aload_n (pc := 38) C dX2_sumOf_38 rfl 2 rfl ?_
        refine g_aload_n (pc := 39) C dX2_sumOf_39 rfl 0 rfl ?_
        refine gf_X2_18 (pc := 40) (u := 42) C kd_39 rfl dX2_sumOf_40 ?_
        refine g_iload_n (pc := 43) C dX2_sumOf_43 rfl 1 rfl ?_
        refine g_iald (pc := 44) C kd_42 dX2_sumOf_44 ?_
        refine g_iald (pc := 45) C ha1 dX2_sumOf_45 ?_
        refine g_iadd (pc := 46) C dX2_sumOf_46 ?_
        exact g_iret (pc := 47) C dX2_sumOf_47 rfl rfl
      · refine g_iconst (pc := 19) C dX2_sumOf_19 ic_iconst_0 ?_
        exact g_iret (pc := 20) C dX2_sumOf_20 rfl rfl

/-! X2_isFor -/
set_option maxRecDepth 100000 in
set_option maxHeartbeats 4000000 in
theorem c_X2_isFor (a0 : Int32) (a1 : Int32) (a2 : Int32)  (M : gM) : gCt yX2_isFor cX2_isFor 5 (some .boolean) 1 22 (fun ad K V => [.ref (ad 39), .int a0, .int a1, .int a2]) rvR (rMR M) M (f_X2_isFor a0 a1 a2 M) := by
  refine g_met (y := yX2_isFor) (by decide +kernel) (fun _ _ _ => Nat.le_of_ble_eq_true rfl) (fun X C => ?_)
  show G X (gQm X rvR (rMR M)) 5 M [(0, .ref (xad X 39)), (1, .int a0), (2, .int a1), (3, .int a2)] [] 0 (f_X2_isFor a0 a1 a2 M)
  unfold f_X2_isFor
  refine g_aload_n (pc := 0) C dX2_isFor_0 rfl 0 rfl ?_
  refine gf_X2_21 (pc := 1) (u := 3) C kd_39 rfl dX2_isFor_1 ?_
  refine g_iload_n (pc := 4) C dX2_isFor_4 rfl 2 rfl ?_
  refine g_callR (pc := 5) C (g_runVN (stk := []) C (c_X7_hasScene 3 a1 kd_3 M) rfl rfl rfl kd_3 rfl wC_X7_hasScene wI_X7_hasScene wV_X7_hasScene wi_X7 wnm_X2_75 hy_X7_hasScene (by decide) (Nat.le_of_ble_eq_true rfl) dX2_isFor_5) (fun r1 => ?_)
  refine g_if_eq (pc := 8) (tgt := 23) C dX2_isFor_8 (by decide) ?_ ?_
  · refine g_iconst (pc := 23) C dX2_isFor_23 ic_iconst_0 ?_
    exact g_zretk (pc := 24) C rfl dX2_isFor_24 rfl rfl
  · refine g_aload_n (pc := 11) C dX2_isFor_11 rfl 0 rfl ?_
    refine g_iload_n (pc := 12) C dX2_isFor_12 rfl 1 rfl ?_
    refine g_callR (pc := 13) C (g_runV (stk := []) C (c_X2_partsOf a0 M) rfl rfl rfl kd_39 rfl wC_X2_partsOf wI_X2_partsOf wV_X2_partsOf wi_X2 wm_X2_69 hy_X2_partsOf (by decide) (Nat.le_of_ble_eq_true rfl) dX2_isFor_13) (fun r2 => ?_)
    refine g_iload_n (pc := 16) C dX2_isFor_16 rfl 3 rfl ?_
    refine g_iconst (pc := 17) C dX2_isFor_17 ic_iconst_m1 ?_
    refine g_ixor (pc := 18) C dX2_isFor_18 ?_
    refine g_iand (pc := 19) C dX2_isFor_19 ?_
    refine g_if_eq (pc := 20) (tgt := 25) C dX2_isFor_20 (by decide) ?_ ?_
    · refine g_aload_n (pc := 25) C dX2_isFor_25 rfl 0 rfl ?_
      refine g_iload_n (pc := 26) C dX2_isFor_26 rfl 1 rfl ?_
      refine g_aload_n (pc := 27) C dX2_isFor_27 rfl 0 rfl ?_
      refine gf_X2_25 (pc := 28) (u := 26) C kd_39 rfl dX2_isFor_28 ?_
      refine gf_X2_49 (pc := 31) (u := 27) C kd_26 rfl dX2_isFor_31 ?_
      refine g_callR (pc := 34) C (g_runV (stk := []) C (c_X2_sumOf a0 27 10 kd_27 M) rfl rfl rfl kd_39 rfl wC_X2_sumOf wI_X2_sumOf wV_X2_sumOf wi_X2 wm_X2_54 hy_X2_sumOf (by decide) (Nat.le_of_ble_eq_true rfl) dX2_isFor_34) (fun r3 => ?_)
      refine g_istore (pc := 37) (lv' := [(4, .int r3), (0, .ref (xad X 39)), (1, .int a0), (2, .int a1), (3, .int a2)]) C dX2_isFor_37 (by decide) rfl ?_
      refine g_aload_n (pc := 39) C dX2_isFor_39 rfl 1 rfl ?_
      refine gf_X2_21 (pc := 40) (u := 3) C kd_39 rfl dX2_isFor_40 ?_
      refine gf_X2_78 (pc := 43) (u := 12) C kd_3 rfl dX2_isFor_43 ?_
      refine g_iload_n (pc := 46) C dX2_isFor_46 rfl 3 rfl ?_
      refine g_iald (pc := 47) C kd_12 dX2_isFor_47 ?_
      refine g_iload (pc := 48) C dX2_isFor_48 0 rfl ?_
      refine g_icmp_gt (pc := 50) (tgt := 71) C dX2_isFor_50 (by decide) ?_ ?_
      · refine g_iconst (pc := 71) C dX2_isFor_71 ic_iconst_0 ?_
        exact g_zretk (pc := 72) C rfl dX2_isFor_72 rfl rfl
      · refine g_iload (pc := 53) C dX2_isFor_53 0 rfl ?_
        refine g_aload_n (pc := 55) C dX2_isFor_55 rfl 1 rfl ?_
        refine gf_X2_21 (pc := 56) (u := 3) C kd_39 rfl dX2_isFor_56 ?_
        refine gf_X2_81 (pc := 59) (u := 13) C kd_3 rfl dX2_isFor_59 ?_
        refine g_iload_n (pc := 62) C dX2_isFor_62 rfl 3 rfl ?_
        refine g_iald (pc := 63) C kd_13 dX2_isFor_63 ?_
        refine g_icmp_gt (pc := 64) (tgt := 71) C dX2_isFor_64 (by decide) ?_ ?_
        · refine g_iconst (pc := 71) C dX2_isFor_71 ic_iconst_0 ?_
          exact g_zretk (pc := 72) C rfl dX2_isFor_72 rfl rfl
        · refine g_iconst (pc := 67) C dX2_isFor_67 ic_iconst_1 ?_
          refine g_goto (pc := 68) (tgt := 72) C dX2_isFor_68 (by decide) ?_
          exact g_zretk (pc := 72) C rfl dX2_isFor_72 rfl rfl
    · refine g_iconst (pc := 23) C dX2_isFor_23 ic_iconst_0 ?_
      exact g_zretk (pc := 24) C rfl dX2_isFor_24 rfl rfl

/-! X1_dressOneMore -/
set_option maxRecDepth 100000 in
set_option maxHeartbeats 4000000 in
theorem g_X1_dressOneMore_h106_b {X : gX} (C : gC X cX1_dressOneMore RX1 8 none 2 46) (F : Nat) (a0 : Int32) (a1 : Int32) (a2 : Int32) (k66 : Int32 → gM → Option gM) (hk66 : ∀ (x4 : Int32) (M : gM), G X (gQm X rvV rMV) 8 M [(0, .ref (xad X 43)), (1, .int a0), (2, .int a1), (3, .int a2), (4, .int x4)] [] 66 (k66 x4 M)) (k106 : Int32 → Int32 → Int32 → gM → Option gM) (hk106 : ∀ (x4 : Int32) (x5 : Int32) (x6 : Int32) (M : gM), G X (gQm X rvV rMV) 8 M [(0, .ref (xad X 43)), (1, .int a0), (2, .int a1), (3, .int a2), (4, .int x4), (5, .int x5), (6, .int x6)] [] 106 (k106 x4 x5 x6 M)) (x4 : Int32) (x5 : Int32) (x6 : Int32) (M : gM) : G X (gQm X rvV rMV) 8 M [(0, .ref (xad X 43)), (1, .int a0), (2, .int a1), (3, .int a2), (4, .int x4), (5, .int x5), (6, .int x6)] [] 106 (f_X1_dressOneMore_h106_b F a0 a1 a2 k66 k106 x4 x5 x6 M) := by
  unfold f_X1_dressOneMore_h106_b
  refine g_iload (pc := 106) C dX1_dressOneMore_106 6 rfl ?_
  refine g_aload_n (pc := 108) C dX1_dressOneMore_108 rfl 0 rfl ?_
  refine gf_X1_9 (pc := 109) (u := 44) C kd_43 rfl dX1_dressOneMore_109 ?_
  refine g_bipush (pc := 112) C dX1_dressOneMore_112 ic_bipush_12 ?_
  refine g_iald (pc := 114) C kd_44 dX1_dressOneMore_114 ?_
  refine g_icmp_ge (pc := 115) (tgt := 170) C dX1_dressOneMore_115 (by decide) ?_ ?_
  · refine g_iinc (pc := 170) (j := 4) (lv' := [(4, .int (x4 + (1 : Int32))), (0, .ref (xad X 43)), (1, .int a0), (2, .int a1), (3, .int a2), (5, .int x5), (6, .int x6)]) C dX1_dressOneMore_170 rfl (ii_1 _) (by decide) rfl ?_
    refine g_goto (pc := 173) (tgt := 66) C dX1_dressOneMore_173 (by decide) ?_
    refine g_sub (lv' := [(0, .ref (xad X 43)), (1, .int a0), (2, .int a1), (3, .int a2), (4, .int (x4 + (1 : Int32)))]) [1, 2, 3, 4, 0] rfl ?_
    exact hk66 (x4 + (1 : Int32)) M
  · refine g_aload_n (pc := 118) C dX1_dressOneMore_118 rfl 0 rfl ?_
    refine gf_X1_17 (pc := 119) (u := 45) C kd_43 rfl dX1_dressOneMore_119 ?_
    refine g_bipush (pc := 122) C dX1_dressOneMore_122 ic_bipush_12 ?_
    refine g_aaldh (pc := 124) C kd_45 dX1_dressOneMore_124 (fun hb11 => ?_)
    refine g_iload (pc := 125) C dX1_dressOneMore_125 6 rfl ?_
    refine g_iald (pc := 127) C (kg_45 hb11) dX1_dressOneMore_127 ?_
    refine g_lt (fun v12 => ?_)
    refine g_istore (pc := 128) (lv' := [(7, .int v12), (0, .ref (xad X 43)), (1, .int a0), (2, .int a1), (3, .int a2), (4, .int x4), (5, .int x5), (6, .int x6)]) C dX1_dressOneMore_128 (by decide) rfl ?_
    refine g_iload (pc := 130) C dX1_dressOneMore_130 0 rfl ?_
    refine g_iload (pc := 132) C dX1_dressOneMore_132 6 rfl ?_
    refine g_iand (pc := 134) C dX1_dressOneMore_134 ?_
    refine g_if_ne (pc := 135) (tgt := 164) C dX1_dressOneMore_135 (by decide) ?_ ?_
    · refine g_iinc (pc := 164) (j := 7) (lv' := [(6, .int (x6 + (1 : Int32))), (7, .int v12), (0, .ref (xad X 43)), (1, .int a0), (2, .int a1), (3, .int a2), (4, .int x4), (5, .int x5)]) C dX1_dressOneMore_164 rfl (ii_1 _) (by decide) rfl ?_
      refine g_goto (pc := 167) (tgt := 106) C dX1_dressOneMore_167 (by decide) ?_
      refine g_sub (lv' := [(0, .ref (xad X 43)), (1, .int a0), (2, .int a1), (3, .int a2), (4, .int x4), (5, .int x5), (6, .int (x6 + (1 : Int32)))]) [2, 3, 4, 5, 6, 7, 0] rfl ?_
      exact hk106 x4 x5 (x6 + (1 : Int32)) M
    · refine g_aload_n (pc := 138) C dX1_dressOneMore_138 rfl 1 rfl ?_
      refine g_iload_n (pc := 139) C dX1_dressOneMore_139 rfl 2 rfl ?_
      refine g_iload (pc := 140) C dX1_dressOneMore_140 0 rfl ?_
      refine g_iload (pc := 142) C dX1_dressOneMore_142 6 rfl ?_
      refine g_ior (pc := 144) C dX1_dressOneMore_144 ?_
      refine g_aload_n (pc := 145) C dX1_dressOneMore_145 rfl 1 rfl ?_
      refine gf_X1_20 (pc := 146) (u := 59) C kd_43 rfl dX1_dressOneMore_146 ?_
      refine g_bipush (pc := 149) C dX1_dressOneMore_149 ic_bipush_12 ?_
      refine g_aaldh (pc := 151) C kd_59 dX1_dressOneMore_151 (fun hb13 => ?_)
      refine g_iload (pc := 152) C dX1_dressOneMore_152 7 rfl ?_
      refine g_iald (pc := 154) C (kg_59 hb13) dX1_dressOneMore_154 ?_
      refine g_bipush (pc := 155) C dX1_dressOneMore_155 ic_bipush_64 ?_
      refine g_imul (pc := 157) C dX1_dressOneMore_157 ?_
      refine g_iload (pc := 158) C dX1_dressOneMore_158 5 rfl ?_
      refine g_iadd (pc := 160) C dX1_dressOneMore_160 ?_
      refine g_callV (pc := 161) C (g_runV (stk := []) C (c_X1_addSet F a0 (v12 ||| x5) (((M (rf 59 (12 : Int32).toNatClampNeg) x6.toNatClampNeg) * (64 : Int32)) + x4) M) rfl rfl rfl kd_43 rfl wC_X1_addSet wI_X1_addSet wV_X1_addSet wi_X1 wm_X1_40 hy_X1_addSet (by decide) (Nat.le_of_ble_eq_true rfl) dX1_dressOneMore_161) (fun r14 => ?_)
      refine g_iinc (pc := 164) (j := 7) (lv' := [(6, .int (x6 + (1 : Int32))), (7, .int v12), (0, .ref (xad X 43)), (1, .int a0), (2, .int a1), (3, .int a2), (4, .int x4), (5, .int x5)]) C dX1_dressOneMore_164 rfl (ii_1 _) (by decide) rfl ?_
      refine g_goto (pc := 167) (tgt := 106) C dX1_dressOneMore_167 (by decide) ?_
      refine g_sub (lv' := [(0, .ref (xad X 43)), (1, .int a0), (2, .int a1), (3, .int a2), (4, .int x4), (5, .int x5), (6, .int (x6 + (1 : Int32)))]) [2, 3, 4, 5, 6, 7, 0] rfl ?_
      exact hk106 x4 x5 (x6 + (1 : Int32)) r14

theorem g_X1_dressOneMore_h106 {X : gX} (C : gC X cX1_dressOneMore RX1 8 none 2 46) (F : Nat) (a0 : Int32) (a1 : Int32) (a2 : Int32) (k66 : Int32 → gM → Option gM) (hk66 : ∀ (x4 : Int32) (M : gM), G X (gQm X rvV rMV) 8 M [(0, .ref (xad X 43)), (1, .int a0), (2, .int a1), (3, .int a2), (4, .int x4)] [] 66 (k66 x4 M)) : ∀ (n : Nat) (x4 : Int32) (x5 : Int32) (x6 : Int32) (M : gM), G X (gQm X rvV rMV) 8 M [(0, .ref (xad X 43)), (1, .int a0), (2, .int a1), (3, .int a2), (4, .int x4), (5, .int x5), (6, .int x6)] [] 106 (f_X1_dressOneMore_h106 F a0 a1 a2 k66 n x4 x5 x6 M) := by
  intro n
  induction n with
  | zero =>
    intro x4 x5 x6 M r hr
    have hr2 : (none : Option gM) = some r := hr
    cases hr2
  | succ n ih =>
    intro x4 x5 x6 M
    exact g_X1_dressOneMore_h106_b C F a0 a1 a2 k66 hk66 _ ih x4 x5 x6 M
set_option maxRecDepth 100000 in
set_option maxHeartbeats 4000000 in
theorem g_X1_dressOneMore_h66_b {X : gX} (C : gC X cX1_dressOneMore RX1 8 none 2 46) (F : Nat) (a0 : Int32) (a1 : Int32) (a2 : Int32) (k66 : Int32 → gM → Option gM) (hk66 : ∀ (x4 : Int32) (M : gM), G X (gQm X rvV rMV) 8 M [(0, .ref (xad X 43)), (1, .int a0), (2, .int a1), (3, .int a2), (4, .int x4)] [] 66 (k66 x4 M)) (x4 : Int32) (M : gM) : G X (gQm X rvV rMV) 8 M [(0, .ref (xad X 43)), (1, .int a0), (2, .int a1), (3, .int a2), (4, .int x4)] [] 66 (f_X1_dressOneMore_h66_b F a0 a1 a2 k66 x4 M) := by
  unfold f_X1_dressOneMore_h66_b
  refine g_iload (pc := 66) C dX1_dressOneMore_66 4 rfl ?_
  refine g_aload_n (pc := 68) C dX1_dressOneMore_68 rfl 0 rfl ?_
  refine gf_X1_36 (pc := 69) (u := 39) C kd_43 rfl dX1_dressOneMore_69 ?_
  refine gf_X1_64 (pc := 72) C kd_39 dX1_dressOneMore_72 ?_
  refine g_icmp_ge (pc := 75) (tgt := 176) C dX1_dressOneMore_75 (by decide) ?_ ?_
  · exact g_vret (pc := 176) C dX1_dressOneMore_176 rfl rfl
  · refine g_aload_n (pc := 78) C dX1_dressOneMore_78 rfl 0 rfl ?_
    refine gf_X1_36 (pc := 79) (u := 39) C kd_43 rfl dX1_dressOneMore_79 ?_
    refine g_iload (pc := 82) C dX1_dressOneMore_82 4 rfl ?_
    refine g_iload_n (pc := 84) C dX1_dressOneMore_84 rfl 2 rfl ?_
    refine g_iload_n (pc := 85) C dX1_dressOneMore_85 rfl 3 rfl ?_
    refine g_callR (pc := 86) C (g_runVN (stk := []) C (c_X2_isFor x4 a1 a2 M) rfl rfl rfl kd_39 rfl wC_X2_isFor wI_X2_isFor wV_X2_isFor wi_X2 wnm_X1_69 hy_X2_isFor (by decide) (Nat.le_of_ble_eq_true rfl) dX1_dressOneMore_86) (fun r9 => ?_)
    refine g_if_eq (pc := 89) (tgt := 170) C dX1_dressOneMore_89 (by decide) ?_ ?_
    · refine g_iinc (pc := 170) (j := 4) (lv' := [(4, .int (x4 + (1 : Int32))), (0, .ref (xad X 43)), (1, .int a0), (2, .int a1), (3, .int a2)]) C dX1_dressOneMore_170 rfl (ii_1 _) (by decide) rfl ?_
      refine g_goto (pc := 173) (tgt := 66) C dX1_dressOneMore_173 (by decide) ?_
      refine g_sub (lv' := [(0, .ref (xad X 43)), (1, .int a0), (2, .int a1), (3, .int a2), (4, .int (x4 + (1 : Int32)))]) [1, 2, 3, 4, 0] rfl ?_
      exact hk66 (x4 + (1 : Int32)) M
    · refine g_aload_n (pc := 92) C dX1_dressOneMore_92 rfl 0 rfl ?_
      refine gf_X1_36 (pc := 93) (u := 39) C kd_43 rfl dX1_dressOneMore_93 ?_
      refine g_iload (pc := 96) C dX1_dressOneMore_96 4 rfl ?_
      refine g_callR (pc := 98) C (g_runVN (stk := []) C (c_X2_partsOf x4 M) rfl rfl rfl kd_39 rfl wC_X2_partsOf wI_X2_partsOf wV_X2_partsOf wi_X2 wnm_X1_73 hy_X2_partsOf (by decide) (Nat.le_of_ble_eq_true rfl) dX1_dressOneMore_98) (fun r10 => ?_)
      refine g_istore (pc := 101) (lv' := [(5, .int r10), (0, .ref (xad X 43)), (1, .int a0), (2, .int a1), (3, .int a2), (4, .int x4)]) C dX1_dressOneMore_101 (by decide) rfl ?_
      refine g_iconst (pc := 103) C dX1_dressOneMore_103 ic_iconst_0 ?_
      refine g_istore (pc := 104) (lv' := [(6, .int (0 : Int32)), (5, .int r10), (0, .ref (xad X 43)), (1, .int a0), (2, .int a1), (3, .int a2), (4, .int x4)]) C dX1_dressOneMore_104 (by decide) rfl ?_
      refine g_sub (lv' := [(0, .ref (xad X 43)), (1, .int a0), (2, .int a1), (3, .int a2), (4, .int x4), (5, .int r10), (6, .int (0 : Int32))]) [2, 3, 4, 5, 6, 1, 0] rfl ?_
      exact g_X1_dressOneMore_h106 C F a0 a1 a2 k66 hk66 F x4 r10 (0 : Int32) M

theorem g_X1_dressOneMore_h66 {X : gX} (C : gC X cX1_dressOneMore RX1 8 none 2 46) (F : Nat) (a0 : Int32) (a1 : Int32) (a2 : Int32) : ∀ (n : Nat) (x4 : Int32) (M : gM), G X (gQm X rvV rMV) 8 M [(0, .ref (xad X 43)), (1, .int a0), (2, .int a1), (3, .int a2), (4, .int x4)] [] 66 (f_X1_dressOneMore_h66 F a0 a1 a2 n x4 M) := by
  intro n
  induction n with
  | zero =>
    intro x4 M r hr
    have hr2 : (none : Option gM) = some r := hr
    cases hr2
  | succ n ih =>
    intro x4 M
    exact g_X1_dressOneMore_h66_b C F a0 a1 a2 _ ih x4 M
set_option maxRecDepth 100000 in
set_option maxHeartbeats 4000000 in
theorem c_X1_dressOneMore (F : Nat) (a0 : Int32) (a1 : Int32) (a2 : Int32)  (M : gM) : gCt yX1_dressOneMore cX1_dressOneMore 8 none 2 46 (fun ad K V => [.ref (ad 43), .int a0, .int a1, .int a2]) rvV rMV M (f_X1_dressOneMore F a0 a1 a2 M) := by
  refine g_met (y := yX1_dressOneMore) (by decide +kernel) (fun _ _ _ => Nat.le_of_ble_eq_true rfl) (fun X C => ?_)
  show G X (gQm X rvV rMV) 8 M [(0, .ref (xad X 43)), (1, .int a0), (2, .int a1), (3, .int a2)] [] 0 (f_X1_dressOneMore F a0 a1 a2 M)
  unfold f_X1_dressOneMore
  refine g_iload_n (pc := 0) C dX1_dressOneMore_0 rfl 1 rfl ?_
  refine g_if_lt (pc := 1) (tgt := 10) C dX1_dressOneMore_1 (by decide) ?_ ?_
  · exact g_vret (pc := 10) C dX1_dressOneMore_10 rfl rfl
  · refine g_iload_n (pc := 4) C dX1_dressOneMore_4 rfl 1 rfl ?_
    refine g_bipush (pc := 5) C dX1_dressOneMore_5 ic_bipush_12 ?_
    refine g_icmp_lt (pc := 7) (tgt := 11) C dX1_dressOneMore_7 (by decide) ?_ ?_
    · refine g_aload_n (pc := 11) C dX1_dressOneMore_11 rfl 0 rfl ?_
      refine gf_X1_17 (pc := 12) (u := 45) C kd_43 rfl dX1_dressOneMore_12 ?_
      refine g_iload_n (pc := 15) C dX1_dressOneMore_15 rfl 1 rfl ?_
      refine g_aaldh (pc := 16) C kd_45 dX1_dressOneMore_16 (fun hb1 => ?_)
      refine g_aload_n (pc := 17) C dX1_dressOneMore_17 rfl 0 rfl ?_
      refine gf_X1_17 (pc := 18) (u := 45) C kd_43 rfl dX1_dressOneMore_18 ?_
      refine g_bipush (pc := 21) C dX1_dressOneMore_21 ic_bipush_12 ?_
      refine g_aaldh (pc := 23) C kd_45 dX1_dressOneMore_23 (fun hb2 => ?_)
      refine g_callV (pc := 24) C (g_runSN (stk := []) C (c_X8_copyRow F (rf 45 a0.toNatClampNeg) 64 (rf 45 (12 : Int32).toNatClampNeg) 64 (kg_45 hb1) (kg_45 hb2) M) rfl rfl rfl wC_X8_copyRow wS_X8_copyRow wi_X8 wnm_X1_60 hy_X8_copyRow (by decide) (Nat.le_of_ble_eq_true rfl) dX1_dressOneMore_24) (fun r3 => ?_)
      refine g_aload_n (pc := 27) C dX1_dressOneMore_27 rfl 0 rfl ?_
      refine gf_X1_20 (pc := 28) (u := 59) C kd_43 rfl dX1_dressOneMore_28 ?_
      refine g_iload_n (pc := 31) C dX1_dressOneMore_31 rfl 1 rfl ?_
      refine g_aaldh (pc := 32) C kd_59 dX1_dressOneMore_32 (fun hb4 => ?_)
      refine g_aload_n (pc := 33) C dX1_dressOneMore_33 rfl 0 rfl ?_
      refine gf_X1_20 (pc := 34) (u := 59) C kd_43 rfl dX1_dressOneMore_34 ?_
      refine g_bipush (pc := 37) C dX1_dressOneMore_37 ic_bipush_12 ?_
      refine g_aaldh (pc := 39) C kd_59 dX1_dressOneMore_39 (fun hb5 => ?_)
      refine g_callV (pc := 40) C (g_runSN (stk := []) C (c_X8_copyRow F (rf 59 a0.toNatClampNeg) 64 (rf 59 (12 : Int32).toNatClampNeg) 64 (kg_59 hb4) (kg_59 hb5) r3) rfl rfl rfl wC_X8_copyRow wS_X8_copyRow wi_X8 wnm_X1_60 hy_X8_copyRow (by decide) (Nat.le_of_ble_eq_true rfl) dX1_dressOneMore_40) (fun r6 => ?_)
      refine g_aload_n (pc := 43) C dX1_dressOneMore_43 rfl 0 rfl ?_
      refine gf_X1_9 (pc := 44) (u := 44) C kd_43 rfl dX1_dressOneMore_44 ?_
      refine g_bipush (pc := 47) C dX1_dressOneMore_47 ic_bipush_12 ?_
      refine g_aload_n (pc := 49) C dX1_dressOneMore_49 rfl 0 rfl ?_
      refine gf_X1_9 (pc := 50) (u := 44) C kd_43 rfl dX1_dressOneMore_50 ?_
      refine g_iload_n (pc := 53) C dX1_dressOneMore_53 rfl 1 rfl ?_
      refine g_iald (pc := 54) C kd_44 dX1_dressOneMore_54 ?_
      refine g_iast (pc := 55) C kd_44 dX1_dressOneMore_55 ?_
      refine g_ltM (fun M7 => ?_)
      refine g_aload_n (pc := 56) C dX1_dressOneMore_56 rfl 0 rfl ?_
      refine gf_X1_9 (pc := 57) (u := 44) C kd_43 rfl dX1_dressOneMore_57 ?_
      refine g_iload_n (pc := 60) C dX1_dressOneMore_60 rfl 1 rfl ?_
      refine g_iconst (pc := 61) C dX1_dressOneMore_61 ic_iconst_0 ?_
      refine g_iast (pc := 62) C kd_44 dX1_dressOneMore_62 ?_
      refine g_ltM (fun M8 => ?_)
      refine g_iconst (pc := 63) C dX1_dressOneMore_63 ic_iconst_0 ?_
      refine g_istore (pc := 64) (lv' := [(4, .int (0 : Int32)), (0, .ref (xad X 43)), (1, .int a0), (2, .int a1), (3, .int a2)]) C dX1_dressOneMore_64 (by decide) rfl ?_
      refine g_sub (lv' := [(0, .ref (xad X 43)), (1, .int a0), (2, .int a1), (3, .int a2), (4, .int (0 : Int32))]) [1, 2, 3, 4, 0] rfl ?_
      exact g_X1_dressOneMore_h66 C F a0 a1 a2 F (0 : Int32) M8
    · exact g_vret (pc := 10) C dX1_dressOneMore_10 rfl rfl

/-! X7_freeIn -/
set_option maxRecDepth 100000 in
set_option maxHeartbeats 4000000 in
theorem g_X7_freeIn_h4_b {X : gX} (C : gC X cX7_freeIn RX7 4 (some .int) 2 43) (F : Nat) (t : Nat) (a0 : Int32) (M : gM) (ht : kd t = gKo 7) (k4 : Int32 → Int32 → Option Int32) (hk4 : ∀ (x2 : Int32) (x3 : Int32), G X (gQm X rvR (rMR M)) 4 M [(0, .ref (xad X t)), (1, .int a0), (2, .int x2), (3, .int x3)] [] 4 (k4 x2 x3)) (x2 : Int32) (x3 : Int32) : G X (gQm X rvR (rMR M)) 4 M [(0, .ref (xad X t)), (1, .int a0), (2, .int x2), (3, .int x3)] [] 4 (f_X7_freeIn_h4_b F t a0 M k4 x2 x3) := by
  unfold f_X7_freeIn_h4_b
  refine g_iload_n (pc := 4) C dX7_freeIn_4 rfl 3 rfl ?_
  refine g_aload_n (pc := 5) C dX7_freeIn_5 rfl 0 rfl ?_
  refine gf_X7_42 (pc := 6) C ht dX7_freeIn_6 ?_
  refine g_icmp_ge (pc := 9) (tgt := 33) C dX7_freeIn_9 (by decide) ?_ ?_
  · refine g_iload_n (pc := 33) C dX7_freeIn_33 rfl 2 rfl ?_
    exact g_iret (pc := 34) C dX7_freeIn_34 rfl rfl
  · refine g_aload_n (pc := 12) C dX7_freeIn_12 rfl 0 rfl ?_
    refine g_iload_n (pc := 13) C dX7_freeIn_13 rfl 3 rfl ?_
    refine g_iload_n (pc := 14) C dX7_freeIn_14 rfl 1 rfl ?_
    refine g_callR (pc := 15) C (g_runV (stk := []) C (c_X7_isFree t x3 a0 ht M) rfl rfl rfl ht rfl wC_X7_isFree wI_X7_isFree wV_X7_isFree wi_X7 wm_X7_64 hy_X7_isFree (by decide) (Nat.le_of_ble_eq_true rfl) dX7_freeIn_15) (fun r1 => ?_)
    refine g_if_eq (pc := 18) (tgt := 27) C dX7_freeIn_18 (by decide) ?_ ?_
    · refine g_iinc (pc := 27) (j := 3) (lv' := [(3, .int (x3 + (1 : Int32))), (0, .ref (xad X t)), (1, .int a0), (2, .int x2)]) C dX7_freeIn_27 rfl (ii_1 _) (by decide) rfl ?_
      refine g_goto (pc := 30) (tgt := 4) C dX7_freeIn_30 (by decide) ?_
      refine g_sub (lv' := [(0, .ref (xad X t)), (1, .int a0), (2, .int x2), (3, .int (x3 + (1 : Int32)))]) [1, 2, 3, 0] rfl ?_
      exact hk4 x2 (x3 + (1 : Int32))
    · refine g_iload_n (pc := 21) C dX7_freeIn_21 rfl 2 rfl ?_
      refine g_iconst (pc := 22) C dX7_freeIn_22 ic_iconst_1 ?_
      refine g_iload_n (pc := 23) C dX7_freeIn_23 rfl 3 rfl ?_
      refine g_ishl (pc := 24) C dX7_freeIn_24 ?_
      refine g_ior (pc := 25) C dX7_freeIn_25 ?_
      refine g_lt (fun v2 => ?_)
      refine g_istore_n (pc := 26) (lv' := [(2, .int v2), (0, .ref (xad X t)), (1, .int a0), (3, .int x3)]) C dX7_freeIn_26 rfl (by decide) rfl ?_
      refine g_iinc (pc := 27) (j := 3) (lv' := [(3, .int (x3 + (1 : Int32))), (2, .int v2), (0, .ref (xad X t)), (1, .int a0)]) C dX7_freeIn_27 rfl (ii_1 _) (by decide) rfl ?_
      refine g_goto (pc := 30) (tgt := 4) C dX7_freeIn_30 (by decide) ?_
      refine g_sub (lv' := [(0, .ref (xad X t)), (1, .int a0), (2, .int v2), (3, .int (x3 + (1 : Int32)))]) [2, 3, 1, 0] rfl ?_
      exact hk4 v2 (x3 + (1 : Int32))

theorem g_X7_freeIn_h4 {X : gX} (C : gC X cX7_freeIn RX7 4 (some .int) 2 43) (F : Nat) (t : Nat) (a0 : Int32) (M : gM) (ht : kd t = gKo 7) : ∀ (n : Nat) (x2 : Int32) (x3 : Int32), G X (gQm X rvR (rMR M)) 4 M [(0, .ref (xad X t)), (1, .int a0), (2, .int x2), (3, .int x3)] [] 4 (f_X7_freeIn_h4 F t a0 M n x2 x3) := by
  intro n
  induction n with
  | zero =>
    intro x2 x3 r hr
    have hr2 : (none : Option Int32) = some r := hr
    cases hr2
  | succ n ih =>
    intro x2 x3
    exact g_X7_freeIn_h4_b C F t a0 M ht _ ih x2 x3
set_option maxRecDepth 100000 in
set_option maxHeartbeats 4000000 in
theorem c_X7_freeIn (F : Nat) (t : Nat) (a0 : Int32) (ht : kd t = gKo 7) (M : gM) : gCt yX7_freeIn cX7_freeIn 4 (some .int) 2 43 (fun ad K V => [.ref (ad t), .int a0]) rvR (rMR M) M (f_X7_freeIn F t a0 M) := by
  refine g_met (y := yX7_freeIn) (by decide +kernel) (fun _ _ _ => Nat.le_of_ble_eq_true rfl) (fun X C => ?_)
  show G X (gQm X rvR (rMR M)) 4 M [(0, .ref (xad X t)), (1, .int a0)] [] 0 (f_X7_freeIn F t a0 M)
  unfold f_X7_freeIn
  refine g_iconst (pc := 0) C dX7_freeIn_0 ic_iconst_0 ?_
  refine g_istore_n (pc := 1) (lv' := [(2, .int (0 : Int32)), (0, .ref (xad X t)), (1, .int a0)]) C dX7_freeIn_1 rfl (by decide) rfl ?_
  refine g_iconst (pc := 2) C dX7_freeIn_2 ic_iconst_0 ?_
  refine g_istore_n (pc := 3) (lv' := [(3, .int (0 : Int32)), (2, .int (0 : Int32)), (0, .ref (xad X t)), (1, .int a0)]) C dX7_freeIn_3 rfl (by decide) rfl ?_
  refine g_sub (lv' := [(0, .ref (xad X t)), (1, .int a0), (2, .int (0 : Int32)), (3, .int (0 : Int32))]) [2, 3, 1, 0] rfl ?_
  exact g_X7_freeIn_h4 C F t a0 M ht F (0 : Int32) (0 : Int32)

/-! X1_gather -/
set_option maxRecDepth 100000 in
set_option maxHeartbeats 4000000 in
theorem g_X1_gather_h30_b {X : gX} (C : gC X cX1_gather RX1 3 none 3 73) (F : Nat) (a0 : Int32) (k30 : Int32 → gM → Option gM) (hk30 : ∀ (x2 : Int32) (M : gM), G X (gQm X rvV rMV) 3 M [(0, .ref (xad X 43)), (1, .int a0), (2, .int x2)] [] 30 (k30 x2 M)) (x2 : Int32) (M : gM) : G X (gQm X rvV rMV) 3 M [(0, .ref (xad X 43)), (1, .int a0), (2, .int x2)] [] 30 (f_X1_gather_h30_b F a0 k30 x2 M) := by
  unfold f_X1_gather_h30_b
  refine g_iload_n (pc := 30) C dX1_gather_30 rfl 2 rfl ?_
  refine g_aload_n (pc := 31) C dX1_gather_31 rfl 0 rfl ?_
  refine gf_X1_32 (pc := 32) (u := 3) C kd_43 rfl dX1_gather_32 ?_
  refine gf_X1_44 (pc := 35) C kd_3 dX1_gather_35 ?_
  refine g_icmp_ge (pc := 38) (tgt := 81) C dX1_gather_38 (by decide) ?_ ?_
  · exact g_vret (pc := 81) C dX1_gather_81 rfl rfl
  · refine g_aload_n (pc := 41) C dX1_gather_41 rfl 0 rfl ?_
    refine g_aload_n (pc := 42) C dX1_gather_42 rfl 0 rfl ?_
    refine gf_X1_32 (pc := 43) (u := 3) C kd_43 rfl dX1_gather_43 ?_
    refine gf_X1_50 (pc := 46) (u := 11) C kd_3 rfl dX1_gather_46 ?_
    refine g_iload_n (pc := 49) C dX1_gather_49 rfl 2 rfl ?_
    refine g_iald (pc := 50) C kd_11 dX1_gather_50 ?_
    refine g_iload_n (pc := 51) C dX1_gather_51 rfl 2 rfl ?_
    refine g_aload_n (pc := 52) C dX1_gather_52 rfl 0 rfl ?_
    refine gf_X1_32 (pc := 53) (u := 3) C kd_43 rfl dX1_gather_53 ?_
    refine g_aload_n (pc := 56) C dX1_gather_56 rfl 0 rfl ?_
    refine gf_X1_32 (pc := 57) (u := 3) C kd_43 rfl dX1_gather_57 ?_
    refine gf_X1_50 (pc := 60) (u := 11) C kd_3 rfl dX1_gather_60 ?_
    refine g_iload_n (pc := 63) C dX1_gather_63 rfl 2 rfl ?_
    refine g_iald (pc := 64) C kd_11 dX1_gather_64 ?_
    refine g_callR (pc := 65) C (g_runVN (stk := [.int x2, .int (M 11 x2.toNatClampNeg), .ref (xad X 43)]) C (c_X7_freeIn F 3 (M 11 x2.toNatClampNeg) kd_3 M) rfl rfl rfl kd_3 rfl wC_X7_freeIn wI_X7_freeIn wV_X7_freeIn wi_X7 wnm_X1_53 hy_X7_freeIn (by decide) (Nat.le_of_ble_eq_true rfl) dX1_gather_65) (fun r1 => ?_)
    refine g_iload_n (pc := 68) C dX1_gather_68 rfl 1 rfl ?_
    refine g_iconst (pc := 69) C dX1_gather_69 ic_iconst_m1 ?_
    refine g_ixor (pc := 70) C dX1_gather_70 ?_
    refine g_iand (pc := 71) C dX1_gather_71 ?_
    refine g_callV (pc := 72) C (g_runV (stk := []) C (c_X1_dressOneMore F (M 11 x2.toNatClampNeg) x2 (r1 &&& (a0 ^^^ (-1 : Int32))) M) rfl rfl rfl kd_43 rfl wC_X1_dressOneMore wI_X1_dressOneMore wV_X1_dressOneMore wi_X1 wm_X1_57 hy_X1_dressOneMore (by decide) (Nat.le_of_ble_eq_true rfl) dX1_gather_72) (fun r2 => ?_)
    refine g_iinc (pc := 75) (j := 2) (lv' := [(2, .int (x2 + (1 : Int32))), (0, .ref (xad X 43)), (1, .int a0)]) C dX1_gather_75 rfl (ii_1 _) (by decide) rfl ?_
    refine g_goto (pc := 78) (tgt := 30) C dX1_gather_78 (by decide) ?_
    refine g_sub (lv' := [(0, .ref (xad X 43)), (1, .int a0), (2, .int (x2 + (1 : Int32)))]) [1, 2, 0] rfl ?_
    exact hk30 (x2 + (1 : Int32)) r2

theorem g_X1_gather_h30 {X : gX} (C : gC X cX1_gather RX1 3 none 3 73) (F : Nat) (a0 : Int32) : ∀ (n : Nat) (x2 : Int32) (M : gM), G X (gQm X rvV rMV) 3 M [(0, .ref (xad X 43)), (1, .int a0), (2, .int x2)] [] 30 (f_X1_gather_h30 F a0 n x2 M) := by
  intro n
  induction n with
  | zero =>
    intro x2 M r hr
    have hr2 : (none : Option gM) = some r := hr
    cases hr2
  | succ n ih =>
    intro x2 M
    exact g_X1_gather_h30_b C F a0 _ ih x2 M
set_option maxRecDepth 100000 in
set_option maxHeartbeats 4000000 in
theorem g_X1_gather_h2_b {X : gX} (C : gC X cX1_gather RX1 3 none 3 73) (F : Nat) (a0 : Int32) (k2 : Int32 → gM → Option gM) (hk2 : ∀ (x2 : Int32) (M : gM), G X (gQm X rvV rMV) 3 M [(0, .ref (xad X 43)), (1, .int a0), (2, .int x2)] [] 2 (k2 x2 M)) (x2 : Int32) (M : gM) : G X (gQm X rvV rMV) 3 M [(0, .ref (xad X 43)), (1, .int a0), (2, .int x2)] [] 2 (f_X1_gather_h2_b F a0 k2 x2 M) := by
  unfold f_X1_gather_h2_b
  refine g_iload_n (pc := 2) C dX1_gather_2 rfl 2 rfl ?_
  refine g_bipush (pc := 3) C dX1_gather_3 ic_bipush_12 ?_
  refine g_icmp_ge (pc := 5) (tgt := 28) C dX1_gather_5 (by decide) ?_ ?_
  · refine g_iconst (pc := 28) C dX1_gather_28 ic_iconst_0 ?_
    refine g_istore_n (pc := 29) (lv' := [(2, .int (0 : Int32)), (0, .ref (xad X 43)), (1, .int a0)]) C dX1_gather_29 rfl (by decide) rfl ?_
    refine g_sub (lv' := [(0, .ref (xad X 43)), (1, .int a0), (2, .int (0 : Int32))]) [1, 2, 0] rfl ?_
    exact g_X1_gather_h30 C F a0 F (0 : Int32) M
  · refine g_aload_n (pc := 8) C dX1_gather_8 rfl 0 rfl ?_
    refine gf_X1_9 (pc := 9) (u := 44) C kd_43 rfl dX1_gather_9 ?_
    refine g_iload_n (pc := 12) C dX1_gather_12 rfl 2 rfl ?_
    refine g_iconst (pc := 13) C dX1_gather_13 ic_iconst_0 ?_
    refine g_iast (pc := 14) C kd_44 dX1_gather_14 ?_
    refine g_ltM (fun M3 => ?_)
    refine g_aload_n (pc := 15) C dX1_gather_15 rfl 0 rfl ?_
    refine g_iload_n (pc := 16) C dX1_gather_16 rfl 2 rfl ?_
    refine g_iconst (pc := 17) C dX1_gather_17 ic_iconst_0 ?_
    refine g_iconst (pc := 18) C dX1_gather_18 ic_iconst_0 ?_
    refine g_callV (pc := 19) C (g_runV (stk := []) C (c_X1_addSet F x2 (0 : Int32) (0 : Int32) M3) rfl rfl rfl kd_43 rfl wC_X1_addSet wI_X1_addSet wV_X1_addSet wi_X1 wm_X1_40 hy_X1_addSet (by decide) (Nat.le_of_ble_eq_true rfl) dX1_gather_19) (fun r4 => ?_)
    refine g_iinc (pc := 22) (j := 2) (lv' := [(2, .int (x2 + (1 : Int32))), (0, .ref (xad X 43)), (1, .int a0)]) C dX1_gather_22 rfl (ii_1 _) (by decide) rfl ?_
    refine g_goto (pc := 25) (tgt := 2) C dX1_gather_25 (by decide) ?_
    refine g_sub (lv' := [(0, .ref (xad X 43)), (1, .int a0), (2, .int (x2 + (1 : Int32)))]) [1, 2, 0] rfl ?_
    exact hk2 (x2 + (1 : Int32)) r4

theorem g_X1_gather_h2 {X : gX} (C : gC X cX1_gather RX1 3 none 3 73) (F : Nat) (a0 : Int32) : ∀ (n : Nat) (x2 : Int32) (M : gM), G X (gQm X rvV rMV) 3 M [(0, .ref (xad X 43)), (1, .int a0), (2, .int x2)] [] 2 (f_X1_gather_h2 F a0 n x2 M) := by
  intro n
  induction n with
  | zero =>
    intro x2 M r hr
    have hr2 : (none : Option gM) = some r := hr
    cases hr2
  | succ n ih =>
    intro x2 M
    exact g_X1_gather_h2_b C F a0 _ ih x2 M
set_option maxRecDepth 100000 in
set_option maxHeartbeats 4000000 in
theorem c_X1_gather (F : Nat) (a0 : Int32)  (M : gM) : gCt yX1_gather cX1_gather 3 none 3 73 (fun ad K V => [.ref (ad 43), .int a0]) rvV rMV M (f_X1_gather F a0 M) := by
  refine g_met (y := yX1_gather) (by decide +kernel) (fun _ _ _ => Nat.le_of_ble_eq_true rfl) (fun X C => ?_)
  show G X (gQm X rvV rMV) 3 M [(0, .ref (xad X 43)), (1, .int a0)] [] 0 (f_X1_gather F a0 M)
  unfold f_X1_gather
  refine g_iconst (pc := 0) C dX1_gather_0 ic_iconst_0 ?_
  refine g_istore_n (pc := 1) (lv' := [(2, .int (0 : Int32)), (0, .ref (xad X 43)), (1, .int a0)]) C dX1_gather_1 rfl (by decide) rfl ?_
  refine g_sub (lv' := [(0, .ref (xad X 43)), (1, .int a0), (2, .int (0 : Int32))]) [1, 2, 0] rfl ?_
  exact g_X1_gather_h2 C F a0 F (0 : Int32) M

/-! X1_priceOfWorn -/
set_option maxRecDepth 100000 in
set_option maxHeartbeats 4000000 in
theorem g_X1_priceOfWorn_h5_b {X : gX} (C : gC X cX1_priceOfWorn RX1 5 (some .int) 2 44) (F : Nat) (a0 : Int32) (a1 : Nat) (na1 : Nat) (M : gM) (ha1 : kd a1 = gKi na1) (k5 : Int32 → Int32 → Option Int32) (hk5 : ∀ (x3 : Int32) (x4 : Int32), G X (gQm X rvR (rMR M)) 5 M [(0, .ref (xad X 43)), (1, .int a0), (2, .ref (xad X a1)), (3, .int x3), (4, .int x4)] [] 5 (k5 x3 x4)) (x3 : Int32) (x4 : Int32) : G X (gQm X rvR (rMR M)) 5 M [(0, .ref (xad X 43)), (1, .int a0), (2, .ref (xad X a1)), (3, .int x3), (4, .int x4)] [] 5 (f_X1_priceOfWorn_h5_b F a0 a1 na1 M k5 x3 x4) := by
  unfold f_X1_priceOfWorn_h5_b
  refine g_iload (pc := 5) C dX1_priceOfWorn_5 4 rfl ?_
  refine g_bipush (pc := 7) C dX1_priceOfWorn_7 ic_bipush_12 ?_
  refine g_icmp_ge (pc := 9) (tgt := 34) C dX1_priceOfWorn_9 (by decide) ?_ ?_
  · refine g_iload_n (pc := 34) C dX1_priceOfWorn_34 rfl 3 rfl ?_
    exact g_iret (pc := 35) C dX1_priceOfWorn_35 rfl rfl
  · refine g_iload_n (pc := 12) C dX1_priceOfWorn_12 rfl 3 rfl ?_
    refine g_aload_n (pc := 13) C dX1_priceOfWorn_13 rfl 0 rfl ?_
    refine gf_X1_26 (pc := 14) (u := 86) C kd_43 rfl dX1_priceOfWorn_14 ?_
    refine g_iload (pc := 17) C dX1_priceOfWorn_17 4 rfl ?_
    refine g_iald (pc := 19) C kd_86 dX1_priceOfWorn_19 ?_
    refine g_iload_n (pc := 20) C dX1_priceOfWorn_20 rfl 1 rfl ?_
    refine g_iand (pc := 21) C dX1_priceOfWorn_21 ?_
    refine g_aload_n (pc := 22) C dX1_priceOfWorn_22 rfl 2 rfl ?_
    refine g_callR (pc := 23) C (g_runSN (stk := [.int x3]) C (c_X8_sumOver F ((M 86 x4.toNatClampNeg) &&& a0) a1 na1 ha1 M) rfl rfl rfl wC_X8_sumOver wS_X8_sumOver wi_X8 wnm_X1_87 hy_X8_sumOver (by decide) (Nat.le_of_ble_eq_true rfl) dX1_priceOfWorn_23) (fun r1 => ?_)
    refine g_iadd (pc := 26) C dX1_priceOfWorn_26 ?_
    refine g_lt (fun v2 => ?_)
    refine g_istore_n (pc := 27) (lv' := [(3, .int v2), (0, .ref (xad X 43)), (1, .int a0), (2, .ref (xad X a1)), (4, .int x4)]) C dX1_priceOfWorn_27 rfl (by decide) rfl ?_
    refine g_iinc (pc := 28) (j := 4) (lv' := [(4, .int (x4 + (1 : Int32))), (3, .int v2), (0, .ref (xad X 43)), (1, .int a0), (2, .ref (xad X a1))]) C dX1_priceOfWorn_28 rfl (ii_1 _) (by decide) rfl ?_
    refine g_goto (pc := 31) (tgt := 5) C dX1_priceOfWorn_31 (by decide) ?_
    refine g_sub (lv' := [(0, .ref (xad X 43)), (1, .int a0), (2, .ref (xad X a1)), (3, .int v2), (4, .int (x4 + (1 : Int32)))]) [2, 3, 4, 1, 0] rfl ?_
    exact hk5 v2 (x4 + (1 : Int32))

theorem g_X1_priceOfWorn_h5 {X : gX} (C : gC X cX1_priceOfWorn RX1 5 (some .int) 2 44) (F : Nat) (a0 : Int32) (a1 : Nat) (na1 : Nat) (M : gM) (ha1 : kd a1 = gKi na1) : ∀ (n : Nat) (x3 : Int32) (x4 : Int32), G X (gQm X rvR (rMR M)) 5 M [(0, .ref (xad X 43)), (1, .int a0), (2, .ref (xad X a1)), (3, .int x3), (4, .int x4)] [] 5 (f_X1_priceOfWorn_h5 F a0 a1 na1 M n x3 x4) := by
  intro n
  induction n with
  | zero =>
    intro x3 x4 r hr
    have hr2 : (none : Option Int32) = some r := hr
    cases hr2
  | succ n ih =>
    intro x3 x4
    exact g_X1_priceOfWorn_h5_b C F a0 a1 na1 M ha1 _ ih x3 x4
set_option maxRecDepth 100000 in
set_option maxHeartbeats 4000000 in
theorem c_X1_priceOfWorn (F : Nat) (a0 : Int32) (a1 : Nat) (na1 : Nat) (ha1 : kd a1 = gKi na1) (M : gM) : gCt yX1_priceOfWorn cX1_priceOfWorn 5 (some .int) 2 44 (fun ad K V => [.ref (ad 43), .int a0, .ref (ad a1)]) rvR (rMR M) M (f_X1_priceOfWorn F a0 a1 na1 M) := by
  refine g_met (y := yX1_priceOfWorn) (by decide +kernel) (fun _ _ _ => Nat.le_of_ble_eq_true rfl) (fun X C => ?_)
  show G X (gQm X rvR (rMR M)) 5 M [(0, .ref (xad X 43)), (1, .int a0), (2, .ref (xad X a1))] [] 0 (f_X1_priceOfWorn F a0 a1 na1 M)
  unfold f_X1_priceOfWorn
  refine g_iconst (pc := 0) C dX1_priceOfWorn_0 ic_iconst_0 ?_
  refine g_istore_n (pc := 1) (lv' := [(3, .int (0 : Int32)), (0, .ref (xad X 43)), (1, .int a0), (2, .ref (xad X a1))]) C dX1_priceOfWorn_1 rfl (by decide) rfl ?_
  refine g_iconst (pc := 2) C dX1_priceOfWorn_2 ic_iconst_0 ?_
  refine g_istore (pc := 3) (lv' := [(4, .int (0 : Int32)), (3, .int (0 : Int32)), (0, .ref (xad X 43)), (1, .int a0), (2, .ref (xad X a1))]) C dX1_priceOfWorn_3 (by decide) rfl ?_
  refine g_sub (lv' := [(0, .ref (xad X 43)), (1, .int a0), (2, .ref (xad X a1)), (3, .int (0 : Int32)), (4, .int (0 : Int32))]) [2, 3, 4, 1, 0] rfl ?_
  exact g_X1_priceOfWorn_h5 C F a0 a1 na1 M ha1 F (0 : Int32) (0 : Int32)

/-! X7_isOfKind -/
set_option maxRecDepth 100000 in
set_option maxHeartbeats 4000000 in
theorem c_X7_isOfKind (t : Nat) (a0 : Int32) (a1 : Int32) (ht : kd t = gKo 7) (M : gM) : gCt yX7_isOfKind cX7_isOfKind 3 (some .boolean) 1 21 (fun ad K V => [.ref (ad t), .int a0, .int a1]) rvR (rMR M) M (f_X7_isOfKind t a0 a1 M) := by
  refine g_met (y := yX7_isOfKind) (by decide +kernel) (fun _ _ _ => Nat.le_of_ble_eq_true rfl) (fun X C => ?_)
  show G X (gQm X rvR (rMR M)) 3 M [(0, .ref (xad X t)), (1, .int a0), (2, .int a1)] [] 0 (f_X7_isOfKind t a0 a1 M)
  unfold f_X7_isOfKind
  refine g_aload_n (pc := 0) C dX7_isOfKind_0 rfl 0 rfl ?_
  refine g_iload_n (pc := 1) C dX7_isOfKind_1 rfl 1 rfl ?_
  refine g_callR (pc := 2) C (g_runV (stk := []) C (c_X7_hasPart t a0 ht M) rfl rfl rfl ht rfl wC_X7_hasPart wI_X7_hasPart wV_X7_hasPart wi_X7 wm_X7_46 hy_X7_hasPart (by decide) (Nat.le_of_ble_eq_true rfl) dX7_isOfKind_2) (fun r1 => ?_)
  refine g_if_eq (pc := 5) (tgt := 22) C dX7_isOfKind_5 (by decide) ?_ ?_
  · refine g_iconst (pc := 22) C dX7_isOfKind_22 ic_iconst_0 ?_
    exact g_zretk (pc := 23) C rfl dX7_isOfKind_23 rfl rfl
  · refine g_aload_n (pc := 8) C dX7_isOfKind_8 rfl 0 rfl ?_
    refine gf_X7_9 (pc := 9) C ht rfl dX7_isOfKind_9 ?_
    refine g_iload_n (pc := 12) C dX7_isOfKind_12 rfl 1 rfl ?_
    refine g_iald (pc := 13) C (kf_7_0 ht) dX7_isOfKind_13 ?_
    refine g_iload_n (pc := 14) C dX7_isOfKind_14 rfl 2 rfl ?_
    refine g_icmp_ne (pc := 15) (tgt := 22) C dX7_isOfKind_15 (by decide) ?_ ?_
    · refine g_iconst (pc := 22) C dX7_isOfKind_22 ic_iconst_0 ?_
      exact g_zretk (pc := 23) C rfl dX7_isOfKind_23 rfl rfl
    · refine g_iconst (pc := 18) C dX7_isOfKind_18 ic_iconst_1 ?_
      refine g_goto (pc := 19) (tgt := 23) C dX7_isOfKind_19 (by decide) ?_
      exact g_zretk (pc := 23) C rfl dX7_isOfKind_23 rfl rfl

/-! X7_isClash -/
set_option maxRecDepth 100000 in
set_option maxHeartbeats 4000000 in
theorem c_X7_isClash (t : Nat) (a0 : Int32) (a1 : Int32) (ht : kd t = gKo 7) (M : gM) : gCt yX7_isClash cX7_isClash 3 (some .boolean) 1 21 (fun ad K V => [.ref (ad t), .int a0, .int a1]) rvR (rMR M) M (f_X7_isClash t a0 a1 M) := by
  refine g_met (y := yX7_isClash) (by decide +kernel) (fun _ _ _ => Nat.le_of_ble_eq_true rfl) (fun X C => ?_)
  show G X (gQm X rvR (rMR M)) 3 M [(0, .ref (xad X t)), (1, .int a0), (2, .int a1)] [] 0 (f_X7_isClash t a0 a1 M)
  unfold f_X7_isClash
  refine g_aload_n (pc := 0) C dX7_isClash_0 rfl 0 rfl ?_
  refine g_iload_n (pc := 1) C dX7_isClash_1 rfl 1 rfl ?_
  refine g_callR (pc := 2) C (g_runV (stk := []) C (c_X7_hasPart t a0 ht M) rfl rfl rfl ht rfl wC_X7_hasPart wI_X7_hasPart wV_X7_hasPart wi_X7 wm_X7_46 hy_X7_hasPart (by decide) (Nat.le_of_ble_eq_true rfl) dX7_isClash_2) (fun r1 => ?_)
  refine g_if_eq (pc := 5) (tgt := 25) C dX7_isClash_5 (by decide) ?_ ?_
  · refine g_iconst (pc := 25) C dX7_isClash_25 ic_iconst_0 ?_
    exact g_zretk (pc := 26) C rfl dX7_isClash_26 rfl rfl
  · refine g_aload_n (pc := 8) C dX7_isClash_8 rfl 0 rfl ?_
    refine gf_X7_30 (pc := 9) C ht rfl dX7_isClash_9 ?_
    refine g_iload_n (pc := 12) C dX7_isClash_12 rfl 1 rfl ?_
    refine g_iald (pc := 13) C (kf_7_6 ht) dX7_isClash_13 ?_
    refine g_iload_n (pc := 14) C dX7_isClash_14 rfl 2 rfl ?_
    refine g_callR (pc := 15) C (g_runSN (stk := []) C (c_X8_has (M (rf t 6) a0.toNatClampNeg) a1 M) rfl rfl rfl wC_X8_has wS_X8_has wi_X8 wnm_X7_56 hy_X8_has (by decide) (Nat.le_of_ble_eq_true rfl) dX7_isClash_15) (fun r2 => ?_)
    refine g_if_eq (pc := 18) (tgt := 25) C dX7_isClash_18 (by decide) ?_ ?_
    · refine g_iconst (pc := 25) C dX7_isClash_25 ic_iconst_0 ?_
      exact g_zretk (pc := 26) C rfl dX7_isClash_26 rfl rfl
    · refine g_iconst (pc := 21) C dX7_isClash_21 ic_iconst_1 ?_
      refine g_goto (pc := 22) (tgt := 26) C dX7_isClash_22 (by decide) ?_
      exact g_zretk (pc := 26) C rfl dX7_isClash_26 rfl rfl

