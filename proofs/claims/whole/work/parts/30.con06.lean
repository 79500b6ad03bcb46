/-! X8_town -/
set_option maxRecDepth 100000 in
set_option maxHeartbeats 4000000 in
theorem c_X8_town (F : Nat)  (M : gM) : gCt yX8_town cX8_town 2 (some .int) 8 176 (fun ad K V => [.ref (ad 0)]) rvW rMW M (f_X8_town F M) := by
  refine g_met (y := yX8_town) (by decide +kernel) (fun _ _ _ => Nat.le_of_ble_eq_true rfl) (fun X C => ?_)
  show G X (gQm X rvW rMW) 2 M [(0, .ref (xad X 0))] [] 0 (f_X8_town F M)
  unfold f_X8_town
  refine g_aload_n (pc := 0) C dX8_town_0 rfl 0 rfl ?_
  refine gf_X8_31 (pc := 1) (u := 25) C kd_0 rfl dX8_town_1 ?_
  refine g_callW (pc := 4) C (g_runVN (stk := []) C (c_X3_readTown F M) rfl rfl rfl kd_25 rfl wC_X3_readTown wI_X3_readTown wV_X3_readTown wi_X3 wnm_X8_103 hy_X3_readTown (by decide) (Nat.le_of_ble_eq_true rfl) dX8_town_4) (fun r1 => ?_)
  refine g_lt (fun v2 => ?_)
  refine g_istore_n (pc := 7) (lv' := [(1, .int v2), (0, .ref (xad X 0))]) C dX8_town_7 rfl (by decide) rfl ?_
  refine g_aload_n (pc := 8) C dX8_town_8 rfl 1 rfl ?_
  refine g_aload_n (pc := 9) C dX8_town_9 rfl 1 rfl ?_
  refine gf_X8_31 (pc := 10) (u := 25) C kd_0 rfl dX8_town_10 ?_
  refine gf_X8_107 (pc := 13) C kd_25 dX8_town_13 ?_
  refine gp_X8_90 (pc := 16) C kd_0 dX8_town_16 ?_
  refine g_ltM (fun M3 => ?_)
  refine g_aload_n (pc := 19) C dX8_town_19 rfl 1 rfl ?_
  refine gf_X8_10 (pc := 20) (u := 1) C kd_0 rfl dX8_town_20 ?_
  refine g_iconst (pc := 23) C dX8_town_23 ic_iconst_0 ?_
  refine gp_X8_95 (pc := 24) C kd_1 dX8_town_24 ?_
  refine g_ltM (fun M4 => ?_)
  refine g_iload_n (pc := 27) C dX8_town_27 rfl 0 rfl ?_
  refine g_if_eq (pc := 28) (tgt := 36) C dX8_town_28 (by decide) ?_ ?_
  · refine g_aload_n (pc := 36) C dX8_town_36 rfl 1 rfl ?_
    refine gf_X8_19 (pc := 37) (u := 3) C kd_0 rfl dX8_town_37 ?_
    refine g_aload_n (pc := 40) C dX8_town_40 rfl 1 rfl ?_
    refine gf_X8_23 (pc := 41) (u := 14) C kd_0 rfl dX8_town_41 ?_
    refine g_callV (pc := 44) C (g_runVN (stk := []) C (c_X7_copyFrom F 3 14 kd_3 kd_14 M4) rfl rfl rfl kd_3 rfl wC_X7_copyFrom wI_X7_copyFrom wV_X7_copyFrom wi_X7 wnm_X8_110 hy_X7_copyFrom (by decide) (Nat.le_of_ble_eq_true rfl) dX8_town_44) (fun r5 => ?_)
    refine g_aload_n (pc := 47) C dX8_town_47 rfl 1 rfl ?_
    refine gf_X8_38 (pc := 48) (u := 26) C kd_0 rfl dX8_town_48 ?_
    refine g_aload_n (pc := 51) C dX8_town_51 rfl 1 rfl ?_
    refine gf_X8_19 (pc := 52) (u := 3) C kd_0 rfl dX8_town_52 ?_
    refine g_callV (pc := 55) C (g_runVN (stk := []) C (c_X5_beginIn F 26 3 kd_26 kd_3 r5) rfl rfl rfl kd_26 rfl wC_X5_beginIn wI_X5_beginIn wV_X5_beginIn wi_X5 wnm_X8_113 hy_X5_beginIn (by decide) (Nat.le_of_ble_eq_true rfl) dX8_town_55) (fun r6 => ?_)
    refine g_aload_n (pc := 58) C dX8_town_58 rfl 1 rfl ?_
    refine gf_X8_57 (pc := 59) (u := 39) C kd_0 rfl dX8_town_59 ?_
    refine g_callV (pc := 62) C (g_runVN (stk := []) C (c_X2_build F r6) rfl rfl rfl kd_39 rfl wC_X2_build wI_X2_build wV_X2_build wi_X2 wnm_X8_116 hy_X2_build (by decide) (Nat.le_of_ble_eq_true rfl) dX8_town_62) (fun r7 => ?_)
    refine g_aload_n (pc := 65) C dX8_town_65 rfl 1 rfl ?_
    refine gf_X8_73 (pc := 66) (u := 88) C kd_0 rfl dX8_town_66 ?_
    refine g_iconst (pc := 69) C dX8_town_69 ic_iconst_0 ?_
    refine gp_X8_119 (pc := 70) C kd_88 dX8_town_70 ?_
    refine g_ltM (fun M8 => ?_)
    refine g_aload_n (pc := 73) C dX8_town_73 rfl 1 rfl ?_
    refine gf_X8_82 (pc := 74) (u := 91) C kd_0 rfl dX8_town_74 ?_
    refine g_iconst (pc := 77) C dX8_town_77 ic_iconst_0 ?_
    refine gp_X8_122 (pc := 78) C kd_91 dX8_town_78 ?_
    refine g_ltM (fun M9 => ?_)
    refine g_aload_n (pc := 81) C dX8_town_81 rfl 1 rfl ?_
    refine gf_X8_48 (pc := 82) (u := 38) C kd_0 rfl dX8_town_82 ?_
    refine g_iconst (pc := 85) C dX8_town_85 ic_iconst_0 ?_
    refine g_iconst (pc := 86) C dX8_town_86 ic_iconst_0 ?_
    refine g_zast (pc := 87) C kd_38 dX8_town_87 ?_
    refine g_ltM (fun M10 => ?_)
    refine g_aload_n (pc := 88) C dX8_town_88 rfl 1 rfl ?_
    refine gf_X8_48 (pc := 89) (u := 38) C kd_0 rfl dX8_town_89 ?_
    refine g_iconst (pc := 92) C dX8_town_92 ic_iconst_1 ?_
    refine g_iconst (pc := 93) C dX8_town_93 ic_iconst_0 ?_
    refine g_zast (pc := 94) C kd_38 dX8_town_94 ?_
    refine g_ltM (fun M11 => ?_)
    refine g_aload_n (pc := 95) C dX8_town_95 rfl 1 rfl ?_
    refine gf_X8_19 (pc := 96) (u := 3) C kd_0 rfl dX8_town_96 ?_
    refine gf_X8_123 (pc := 99) C kd_3 dX8_town_99 ?_
    exact g_iret (pc := 102) C dX8_town_102 rfl rfl
  · refine g_bipush (pc := 31) C dX8_town_31 ic_bipush_m10 ?_
    refine g_iload_n (pc := 33) C dX8_town_33 rfl 0 rfl ?_
    refine g_isub (pc := 34) C dX8_town_34 ?_
    exact g_iret (pc := 35) C dX8_town_35 rfl rfl

/-! X8_wedding -/
set_option maxRecDepth 100000 in
set_option maxHeartbeats 4000000 in
theorem g_X8_wedding_b115 {X : gX} (C : gC X cX8_wedding RX8 9 (some .int) 3 68) (F : Nat) (a0 : Int32) (a1 : Int32) (M : gM) (k37 : Int32 → Int32 → Int32 → Int32 → Option Int32) (k55 : Int32 → Int32 → Int32 → Int32 → Int32 → Option Int32) (hk37 : ∀ (x3 : Int32) (x4 : Int32) (x5 : Int32) (x6 : Int32), G X (gQm X rvR (rMR M)) 9 M [(0, .ref (xad X 0)), (2, .int a1), (3, .int x3), (4, .int x4), (5, .int x5), (6, .int x6)] [] 37 (k37 x3 x4 x5 x6)) (hk55 : ∀ (x3 : Int32) (x4 : Int32) (x5 : Int32) (x6 : Int32) (x7 : Int32), G X (gQm X rvR (rMR M)) 9 M [(0, .ref (xad X 0)), (2, .int a1), (3, .int x3), (4, .int x4), (5, .int x5), (6, .int x6), (7, .int x7)] [] 55 (k55 x3 x4 x5 x6 x7)) (x5 : Int32) (x6 : Int32) (x7 : Int32) (x8 : Int32) : G X (gQm X rvR (rMR M)) 9 M [(0, .ref (xad X 0)), (2, .int a1), (5, .int x5), (6, .int x6), (7, .int x7), (8, .int x8)] [] 115 (f_X8_wedding_b115 F a0 a1 M k37 k55 x5 x6 x7 x8) := by
  unfold f_X8_wedding_b115
  refine g_iload (pc := 115) C dX8_wedding_115 5 rfl ?_
  refine g_istore_n (pc := 117) (lv' := [(3, .int x8), (0, .ref (xad X 0)), (2, .int a1), (5, .int x5), (6, .int x6), (7, .int x7), (8, .int x8)]) C dX8_wedding_117 rfl (by decide) rfl ?_
  refine g_aload_n (pc := 118) C dX8_wedding_118 rfl 1 rfl ?_
  refine gf_X8_57 (pc := 119) (u := 39) C kd_0 rfl dX8_wedding_119 ?_
  refine g_iload (pc := 122) C dX8_wedding_122 4 rfl ?_
  refine g_callR (pc := 124) C (g_runVN (stk := []) C (c_X2_partsOf x6 M) rfl rfl rfl kd_39 rfl wC_X2_partsOf wI_X2_partsOf wV_X2_partsOf wi_X2 wnm_X8_187 hy_X2_partsOf (by decide) (Nat.le_of_ble_eq_true rfl) dX8_wedding_124) (fun r8 => ?_)
  refine g_aload_n (pc := 127) C dX8_wedding_127 rfl 1 rfl ?_
  refine gf_X8_57 (pc := 128) (u := 39) C kd_0 rfl dX8_wedding_128 ?_
  refine g_iload (pc := 131) C dX8_wedding_131 5 rfl ?_
  refine g_callR (pc := 133) C (g_runVN (stk := [.int r8]) C (c_X2_partsOf x7 M) rfl rfl rfl kd_39 rfl wC_X2_partsOf wI_X2_partsOf wV_X2_partsOf wi_X2 wnm_X8_187 hy_X2_partsOf (by decide) (Nat.le_of_ble_eq_true rfl) dX8_wedding_133) (fun r9 => ?_)
  refine g_ior (pc := 136) C dX8_wedding_136 ?_
  refine g_lt (fun v10 => ?_)
  refine g_istore (pc := 137) (lv' := [(4, .int v10), (3, .int x8), (0, .ref (xad X 0)), (2, .int a1), (5, .int x5), (6, .int x6), (7, .int x7), (8, .int x8)]) C dX8_wedding_137 (by decide) rfl ?_
  refine g_iinc (pc := 139) (j := 6) (lv' := [(7, .int (x7 + (1 : Int32))), (4, .int v10), (3, .int x8), (0, .ref (xad X 0)), (2, .int a1), (5, .int x5), (6, .int x6), (8, .int x8)]) C dX8_wedding_139 rfl (ii_1 _) (by decide) rfl ?_
  refine g_goto (pc := 142) (tgt := 55) C dX8_wedding_142 (by decide) ?_
  refine g_sub (lv' := [(0, .ref (xad X 0)), (2, .int a1), (3, .int x8), (4, .int v10), (5, .int x5), (6, .int x6), (7, .int (x7 + (1 : Int32)))]) [3, 4, 2, 1, 5, 6, 0] rfl ?_
  exact hk55 x8 v10 x5 x6 (x7 + (1 : Int32))

set_option maxRecDepth 100000 in
set_option maxHeartbeats 4000000 in
theorem g_X8_wedding_h55_b {X : gX} (C : gC X cX8_wedding RX8 9 (some .int) 3 68) (F : Nat) (a0 : Int32) (a1 : Int32) (M : gM) (k37 : Int32 → Int32 → Int32 → Int32 → Option Int32) (hk37 : ∀ (x3 : Int32) (x4 : Int32) (x5 : Int32) (x6 : Int32), G X (gQm X rvR (rMR M)) 9 M [(0, .ref (xad X 0)), (2, .int a1), (3, .int x3), (4, .int x4), (5, .int x5), (6, .int x6)] [] 37 (k37 x3 x4 x5 x6)) (k55 : Int32 → Int32 → Int32 → Int32 → Int32 → Option Int32) (hk55 : ∀ (x3 : Int32) (x4 : Int32) (x5 : Int32) (x6 : Int32) (x7 : Int32), G X (gQm X rvR (rMR M)) 9 M [(0, .ref (xad X 0)), (2, .int a1), (3, .int x3), (4, .int x4), (5, .int x5), (6, .int x6), (7, .int x7)] [] 55 (k55 x3 x4 x5 x6 x7)) (x3 : Int32) (x4 : Int32) (x5 : Int32) (x6 : Int32) (x7 : Int32) : G X (gQm X rvR (rMR M)) 9 M [(0, .ref (xad X 0)), (2, .int a1), (3, .int x3), (4, .int x4), (5, .int x5), (6, .int x6), (7, .int x7)] [] 55 (f_X8_wedding_h55_b F a0 a1 M k37 k55 x3 x4 x5 x6 x7) := by
  unfold f_X8_wedding_h55_b
  refine g_iload (pc := 55) C dX8_wedding_55 6 rfl ?_
  refine g_aload_n (pc := 57) C dX8_wedding_57 rfl 0 rfl ?_
  refine gf_X8_57 (pc := 58) (u := 39) C kd_0 rfl dX8_wedding_58 ?_
  refine gf_X8_141 (pc := 61) C kd_39 dX8_wedding_61 ?_
  refine g_icmp_ge (pc := 64) (tgt := 145) C dX8_wedding_64 (by decide) ?_ ?_
  · refine g_iinc (pc := 145) (j := 5) (lv' := [(6, .int (x6 + (1 : Int32))), (0, .ref (xad X 0)), (2, .int a1), (3, .int x3), (4, .int x4), (5, .int x5), (7, .int x7)]) C dX8_wedding_145 rfl (ii_1 _) (by decide) rfl ?_
    refine g_goto (pc := 148) (tgt := 37) C dX8_wedding_148 (by decide) ?_
    refine g_sub (lv' := [(0, .ref (xad X 0)), (2, .int a1), (3, .int x3), (4, .int x4), (5, .int x5), (6, .int (x6 + (1 : Int32)))]) [1, 2, 3, 4, 5, 0] rfl ?_
    exact hk37 x3 x4 x5 (x6 + (1 : Int32))
  · refine g_aload_n (pc := 67) C dX8_wedding_67 rfl 0 rfl ?_
    refine gf_X8_57 (pc := 68) (u := 39) C kd_0 rfl dX8_wedding_68 ?_
    refine g_iload (pc := 71) C dX8_wedding_71 5 rfl ?_
    refine g_iload (pc := 73) C dX8_wedding_73 6 rfl ?_
    refine g_iload (pc := 75) C dX8_wedding_75 4 rfl ?_
    refine g_callR (pc := 77) C (g_runVN (stk := []) C (c_X2_mayMarry x6 x7 x5 M) rfl rfl rfl kd_39 rfl wC_X2_mayMarry wI_X2_mayMarry wV_X2_mayMarry wi_X2 wnm_X8_241 hy_X2_mayMarry (by decide) (Nat.le_of_ble_eq_true rfl) dX8_wedding_77) (fun r4 => ?_)
    refine g_if_eq (pc := 80) (tgt := 139) C dX8_wedding_80 (by decide) ?_ ?_
    · refine g_iinc (pc := 139) (j := 6) (lv' := [(7, .int (x7 + (1 : Int32))), (0, .ref (xad X 0)), (2, .int a1), (3, .int x3), (4, .int x4), (5, .int x5), (6, .int x6)]) C dX8_wedding_139 rfl (ii_1 _) (by decide) rfl ?_
      refine g_goto (pc := 142) (tgt := 55) C dX8_wedding_142 (by decide) ?_
      refine g_sub (lv' := [(0, .ref (xad X 0)), (2, .int a1), (3, .int x3), (4, .int x4), (5, .int x5), (6, .int x6), (7, .int (x7 + (1 : Int32)))]) [1, 2, 3, 4, 5, 6, 0] rfl ?_
      exact hk55 x3 x4 x5 x6 (x7 + (1 : Int32))
    · refine g_aload_n (pc := 83) C dX8_wedding_83 rfl 0 rfl ?_
      refine gf_X8_57 (pc := 84) (u := 39) C kd_0 rfl dX8_wedding_84 ?_
      refine g_iload (pc := 87) C dX8_wedding_87 5 rfl ?_
      refine g_callR (pc := 89) C (g_runVN (stk := []) C (c_X2_priceOf x6 M) rfl rfl rfl kd_39 rfl wC_X2_priceOf wI_X2_priceOf wV_X2_priceOf wi_X2 wnm_X8_194 hy_X2_priceOf (by decide) (Nat.le_of_ble_eq_true rfl) dX8_wedding_89) (fun r5 => ?_)
      refine g_aload_n (pc := 92) C dX8_wedding_92 rfl 0 rfl ?_
      refine gf_X8_57 (pc := 93) (u := 39) C kd_0 rfl dX8_wedding_93 ?_
      refine g_iload (pc := 96) C dX8_wedding_96 6 rfl ?_
      refine g_callR (pc := 98) C (g_runVN (stk := [.int r5]) C (c_X2_priceOf x7 M) rfl rfl rfl kd_39 rfl wC_X2_priceOf wI_X2_priceOf wV_X2_priceOf wi_X2 wnm_X8_194 hy_X2_priceOf (by decide) (Nat.le_of_ble_eq_true rfl) dX8_wedding_98) (fun r6 => ?_)
      refine g_iadd (pc := 101) C dX8_wedding_101 ?_
      refine g_lt (fun v7 => ?_)
      refine g_istore (pc := 102) (lv' := [(8, .int v7), (0, .ref (xad X 0)), (2, .int a1), (3, .int x3), (4, .int x4), (5, .int x5), (6, .int x6), (7, .int x7)]) C dX8_wedding_102 (by decide) rfl ?_
      refine g_iload_n (pc := 104) C dX8_wedding_104 rfl 3 rfl ?_
      refine g_iconst (pc := 105) C dX8_wedding_105 ic_iconst_m1 ?_
      refine g_icmp_eq (pc := 106) (tgt := 115) C dX8_wedding_106 (by decide) ?_ ?_
      · refine g_sub (lv' := [(0, .ref (xad X 0)), (2, .int a1), (5, .int x5), (6, .int x6), (7, .int x7), (8, .int v7)]) [1, 2, 5, 6, 7, 0] rfl ?_
        exact g_X8_wedding_b115 C F a0 a1 M k37 k55 hk37 hk55 x5 x6 x7 v7
      · refine g_iload (pc := 109) C dX8_wedding_109 0 rfl ?_
        refine g_iload_n (pc := 111) C dX8_wedding_111 rfl 3 rfl ?_
        refine g_icmp_ge (pc := 112) (tgt := 139) C dX8_wedding_112 (by decide) ?_ ?_
        · refine g_iinc (pc := 139) (j := 7) (lv' := [(7, .int (x7 + (1 : Int32))), (8, .int v7), (0, .ref (xad X 0)), (2, .int a1), (3, .int x3), (4, .int x4), (5, .int x5), (6, .int x6)]) C dX8_wedding_139 rfl (ii_1 _) (by decide) rfl ?_
          refine g_goto (pc := 142) (tgt := 55) C dX8_wedding_142 (by decide) ?_
          refine g_sub (lv' := [(0, .ref (xad X 0)), (2, .int a1), (3, .int x3), (4, .int x4), (5, .int x5), (6, .int x6), (7, .int (x7 + (1 : Int32)))]) [2, 3, 4, 5, 6, 7, 0] rfl ?_
          exact hk55 x3 x4 x5 x6 (x7 + (1 : Int32))
        · refine g_sub (lv' := [(0, .ref (xad X 0)), (2, .int a1), (5, .int x5), (6, .int x6), (7, .int x7), (8, .int v7)]) [1, 2, 5, 6, 7, 0] rfl ?_
          exact g_X8_wedding_b115 C F a0 a1 M k37 k55 hk37 hk55 x5 x6 x7 v7

theorem g_X8_wedding_h55 {X : gX} (C : gC X cX8_wedding RX8 9 (some .int) 3 68) (F : Nat) (a0 : Int32) (a1 : Int32) (M : gM) (k37 : Int32 → Int32 → Int32 → Int32 → Option Int32) (hk37 : ∀ (x3 : Int32) (x4 : Int32) (x5 : Int32) (x6 : Int32), G X (gQm X rvR (rMR M)) 9 M [(0, .ref (xad X 0)), (2, .int a1), (3, .int x3), (4, .int x4), (5, .int x5), (6, .int x6)] [] 37 (k37 x3 x4 x5 x6)) : ∀ (n : Nat) (x3 : Int32) (x4 : Int32) (x5 : Int32) (x6 : Int32) (x7 : Int32), G X (gQm X rvR (rMR M)) 9 M [(0, .ref (xad X 0)), (2, .int a1), (3, .int x3), (4, .int x4), (5, .int x5), (6, .int x6), (7, .int x7)] [] 55 (f_X8_wedding_h55 F a0 a1 M k37 n x3 x4 x5 x6 x7) := by
  intro n
  induction n with
  | zero =>
    intro x3 x4 x5 x6 x7 r hr
    have hr2 : (none : Option Int32) = some r := hr
    cases hr2
  | succ n ih =>
    intro x3 x4 x5 x6 x7
    exact g_X8_wedding_h55_b C F a0 a1 M k37 hk37 _ ih x3 x4 x5 x6 x7
set_option maxRecDepth 100000 in
set_option maxHeartbeats 4000000 in
theorem g_X8_wedding_h37_b {X : gX} (C : gC X cX8_wedding RX8 9 (some .int) 3 68) (F : Nat) (a0 : Int32) (a1 : Int32) (M : gM) (k37 : Int32 → Int32 → Int32 → Int32 → Option Int32) (hk37 : ∀ (x3 : Int32) (x4 : Int32) (x5 : Int32) (x6 : Int32), G X (gQm X rvR (rMR M)) 9 M [(0, .ref (xad X 0)), (2, .int a1), (3, .int x3), (4, .int x4), (5, .int x5), (6, .int x6)] [] 37 (k37 x3 x4 x5 x6)) (x3 : Int32) (x4 : Int32) (x5 : Int32) (x6 : Int32) : G X (gQm X rvR (rMR M)) 9 M [(0, .ref (xad X 0)), (2, .int a1), (3, .int x3), (4, .int x4), (5, .int x5), (6, .int x6)] [] 37 (f_X8_wedding_h37_b F a0 a1 M k37 x3 x4 x5 x6) := by
  unfold f_X8_wedding_h37_b
  refine g_iload (pc := 37) C dX8_wedding_37 5 rfl ?_
  refine g_aload_n (pc := 39) C dX8_wedding_39 rfl 0 rfl ?_
  refine gf_X8_57 (pc := 40) (u := 39) C kd_0 rfl dX8_wedding_40 ?_
  refine gf_X8_141 (pc := 43) C kd_39 dX8_wedding_43 ?_
  refine g_icmp_ge (pc := 46) (tgt := 151) C dX8_wedding_46 (by decide) ?_ ?_
  · refine g_iload_n (pc := 151) C dX8_wedding_151 rfl 1 rfl ?_
    refine g_if_ne (pc := 152) (tgt := 159) C dX8_wedding_152 (by decide) ?_ ?_
    · refine g_iload (pc := 159) C dX8_wedding_159 3 rfl ?_
      exact g_iret (pc := 161) C dX8_wedding_161 rfl rfl
    · refine g_iload_n (pc := 155) C dX8_wedding_155 rfl 2 rfl ?_
      refine g_goto (pc := 156) (tgt := 161) C dX8_wedding_156 (by decide) ?_
      exact g_iret (pc := 161) C dX8_wedding_161 rfl rfl
  · refine g_iload (pc := 49) C dX8_wedding_49 5 rfl ?_
    refine g_iconst (pc := 51) C dX8_wedding_51 ic_iconst_1 ?_
    refine g_iadd (pc := 52) C dX8_wedding_52 ?_
    refine g_lt (fun v3 => ?_)
    refine g_istore (pc := 53) (lv' := [(7, .int v3), (0, .ref (xad X 0)), (2, .int a1), (3, .int x3), (4, .int x4), (5, .int x5), (6, .int x6)]) C dX8_wedding_53 (by decide) rfl ?_
    refine g_sub (lv' := [(0, .ref (xad X 0)), (2, .int a1), (3, .int x3), (4, .int x4), (5, .int x5), (6, .int x6), (7, .int v3)]) [1, 2, 3, 4, 5, 6, 0] rfl ?_
    exact g_X8_wedding_h55 C F a0 a1 M k37 hk37 F x3 x4 x5 x6 v3

theorem g_X8_wedding_h37 {X : gX} (C : gC X cX8_wedding RX8 9 (some .int) 3 68) (F : Nat) (a0 : Int32) (a1 : Int32) (M : gM) : ∀ (n : Nat) (x3 : Int32) (x4 : Int32) (x5 : Int32) (x6 : Int32), G X (gQm X rvR (rMR M)) 9 M [(0, .ref (xad X 0)), (2, .int a1), (3, .int x3), (4, .int x4), (5, .int x5), (6, .int x6)] [] 37 (f_X8_wedding_h37 F a0 a1 M n x3 x4 x5 x6) := by
  intro n
  induction n with
  | zero =>
    intro x3 x4 x5 x6 r hr
    have hr2 : (none : Option Int32) = some r := hr
    cases hr2
  | succ n ih =>
    intro x3 x4 x5 x6
    exact g_X8_wedding_h37_b C F a0 a1 M _ ih x3 x4 x5 x6
set_option maxRecDepth 100000 in
set_option maxHeartbeats 4000000 in
theorem c_X8_wedding (F : Nat) (a0 : Int32) (a1 : Int32)  (M : gM) : gCt yX8_wedding cX8_wedding 9 (some .int) 3 68 (fun ad K V => [.ref (ad 0), .int a0, .int a1]) rvR (rMR M) M (f_X8_wedding F a0 a1 M) := by
  refine g_met (y := yX8_wedding) (by decide +kernel) (fun _ _ _ => Nat.le_of_ble_eq_true rfl) (fun X C => ?_)
  show G X (gQm X rvR (rMR M)) 9 M [(0, .ref (xad X 0)), (1, .int a0), (2, .int a1)] [] 0 (f_X8_wedding F a0 a1 M)
  unfold f_X8_wedding
  refine g_iload_n (pc := 0) C dX8_wedding_0 rfl 1 rfl ?_
  refine g_callR (pc := 1) C (g_runS (stk := []) C (c_X8_isHour a0 M) rfl rfl rfl wC_X8_isHour wS_X8_isHour wi_X8 wm_X8_235 hy_X8_isHour (by decide) (Nat.le_of_ble_eq_true rfl) dX8_wedding_1) (fun r1 => ?_)
  refine g_if_eq (pc := 4) (tgt := 16) C dX8_wedding_4 (by decide) ?_ ?_
  · refine g_ldc (pc := 16) C wk_X8_94 dX8_wedding_16 ?_
    exact g_iret (pc := 18) C dX8_wedding_18 rfl rfl
  · refine g_iload_n (pc := 7) C dX8_wedding_7 rfl 2 rfl ?_
    refine g_if_lt (pc := 8) (tgt := 16) C dX8_wedding_8 (by decide) ?_ ?_
    · refine g_ldc (pc := 16) C wk_X8_94 dX8_wedding_16 ?_
      exact g_iret (pc := 18) C dX8_wedding_18 rfl rfl
    · refine g_iload_n (pc := 11) C dX8_wedding_11 rfl 2 rfl ?_
      refine g_iconst (pc := 12) C dX8_wedding_12 ic_iconst_1 ?_
      refine g_icmp_le (pc := 13) (tgt := 19) C dX8_wedding_13 (by decide) ?_ ?_
      · refine g_iconst (pc := 19) C dX8_wedding_19 ic_iconst_m1 ?_
        refine g_istore_n (pc := 20) (lv' := [(3, .int (-1 : Int32)), (0, .ref (xad X 0)), (1, .int a0), (2, .int a1)]) C dX8_wedding_20 rfl (by decide) rfl ?_
        refine g_iconst (pc := 21) C dX8_wedding_21 ic_iconst_m1 ?_
        refine g_istore (pc := 22) (lv' := [(4, .int (-1 : Int32)), (3, .int (-1 : Int32)), (0, .ref (xad X 0)), (1, .int a0), (2, .int a1)]) C dX8_wedding_22 (by decide) rfl ?_
        refine g_aload_n (pc := 24) C dX8_wedding_24 rfl 2 rfl ?_
        refine gf_X8_19 (pc := 25) (u := 3) C kd_0 rfl dX8_wedding_25 ?_
        refine g_iload_n (pc := 28) C dX8_wedding_28 rfl 3 rfl ?_
        refine g_callR (pc := 29) C (g_runVN (stk := []) C (c_X7_freeIn F 3 a0 kd_3 M) rfl rfl rfl kd_3 rfl wC_X7_freeIn wI_X7_freeIn wV_X7_freeIn wi_X7 wnm_X8_238 hy_X7_freeIn (by decide) (Nat.le_of_ble_eq_true rfl) dX8_wedding_29) (fun r2 => ?_)
        refine g_istore (pc := 32) (lv' := [(5, .int r2), (4, .int (-1 : Int32)), (3, .int (-1 : Int32)), (0, .ref (xad X 0)), (1, .int a0), (2, .int a1)]) C dX8_wedding_32 (by decide) rfl ?_
        refine g_iconst (pc := 34) C dX8_wedding_34 ic_iconst_0 ?_
        refine g_istore (pc := 35) (lv' := [(6, .int (0 : Int32)), (5, .int r2), (4, .int (-1 : Int32)), (3, .int (-1 : Int32)), (0, .ref (xad X 0)), (1, .int a0), (2, .int a1)]) C dX8_wedding_35 (by decide) rfl ?_
        refine g_sub (lv' := [(0, .ref (xad X 0)), (2, .int a1), (3, .int (-1 : Int32)), (4, .int (-1 : Int32)), (5, .int r2), (6, .int (0 : Int32))]) [4, 6, 3, 2, 1, 0] rfl ?_
        exact g_X8_wedding_h37 C F a0 a1 M F (-1 : Int32) (-1 : Int32) r2 (0 : Int32)
      · refine g_ldc (pc := 16) C wk_X8_94 dX8_wedding_16 ?_
        exact g_iret (pc := 18) C dX8_wedding_18 rfl rfl

/-! X8_width -/
set_option maxRecDepth 100000 in
set_option maxHeartbeats 4000000 in
theorem c_X8_width (a0 : Int32) (a1 : Int32)  (M : gM) : gCt yX8_width cX8_width 4 (some .int) 1 21 (fun ad K V => [.ref (ad 0), .int a0, .int a1]) rvW rMW M (f_X8_width a0 a1 M) := by
  refine g_met (y := yX8_width) (by decide +kernel) (fun _ _ _ => Nat.le_of_ble_eq_true rfl) (fun X C => ?_)
  show G X (gQm X rvW rMW) 4 M [(0, .ref (xad X 0)), (1, .int a0), (2, .int a1)] [] 0 (f_X8_width a0 a1 M)
  unfold f_X8_width
  refine g_aload_n (pc := 0) C dX8_width_0 rfl 0 rfl ?_
  refine gf_X8_19 (pc := 1) (u := 3) C kd_0 rfl dX8_width_1 ?_
  refine g_iload_n (pc := 4) C dX8_width_4 rfl 1 rfl ?_
  refine g_callR (pc := 5) C (g_runVN (stk := []) C (c_X7_hasPart 3 a0 kd_3 M) rfl rfl rfl kd_3 rfl wC_X7_hasPart wI_X7_hasPart wV_X7_hasPart wi_X7 wnm_X8_146 hy_X7_hasPart (by decide) (Nat.le_of_ble_eq_true rfl) dX8_width_5) (fun r1 => ?_)
  refine g_if_ne (pc := 8) (tgt := 14) C dX8_width_8 (by decide) ?_ ?_
  · refine g_iload_n (pc := 14) C dX8_width_14 rfl 2 rfl ?_
    refine g_if_lt (pc := 15) (tgt := 24) C dX8_width_15 (by decide) ?_ ?_
    · refine g_ldc (pc := 24) C wk_X8_94 dX8_width_24 ?_
      exact g_iret (pc := 26) C dX8_width_26 rfl rfl
    · refine g_iload_n (pc := 18) C dX8_width_18 rfl 2 rfl ?_
      refine g_bipush (pc := 19) C dX8_width_19 ic_bipush_9 ?_
      refine g_icmp_le (pc := 21) (tgt := 27) C dX8_width_21 (by decide) ?_ ?_
      · refine g_aload_n (pc := 27) C dX8_width_27 rfl 0 rfl ?_
        refine gf_X8_38 (pc := 28) (u := 26) C kd_0 rfl dX8_width_28 ?_
        refine gf_X8_157 (pc := 31) (u := 27) C kd_26 rfl dX8_width_31 ?_
        refine g_iload_n (pc := 34) C dX8_width_34 rfl 1 rfl ?_
        refine g_iald (pc := 35) C kd_27 dX8_width_35 ?_
        refine g_lt (fun v2 => ?_)
        refine g_istore_n (pc := 36) (lv' := [(3, .int v2), (0, .ref (xad X 0)), (1, .int a0), (2, .int a1)]) C dX8_width_36 rfl (by decide) rfl ?_
        refine g_aload_n (pc := 37) C dX8_width_37 rfl 1 rfl ?_
        refine gf_X8_38 (pc := 38) (u := 26) C kd_0 rfl dX8_width_38 ?_
        refine gf_X8_157 (pc := 41) (u := 27) C kd_26 rfl dX8_width_41 ?_
        refine g_iload_n (pc := 44) C dX8_width_44 rfl 2 rfl ?_
        refine g_iload_n (pc := 45) C dX8_width_45 rfl 3 rfl ?_
        refine g_iast (pc := 46) C kd_27 dX8_width_46 ?_
        refine g_ltM (fun M3 => ?_)
        refine g_iload_n (pc := 47) C dX8_width_47 rfl 0 rfl ?_
        exact g_iret (pc := 48) C dX8_width_48 rfl rfl
      · refine g_ldc (pc := 24) C wk_X8_94 dX8_width_24 ?_
        exact g_iret (pc := 26) C dX8_width_26 rfl rfl
  · refine g_ldc (pc := 11) C wk_X8_150 dX8_width_11 ?_
    exact g_iret (pc := 13) C dX8_width_13 rfl rfl

/-! X8_without -/
set_option maxRecDepth 100000 in
set_option maxHeartbeats 4000000 in
theorem c_X8_without (F : Nat) (a0 : Int32)  (M : gM) : gCt yX8_without cX8_without 4 (some .int) 5 116 (fun ad K V => [.ref (ad 0), .int a0]) rvW rMW M (f_X8_without F a0 M) := by
  refine g_met (y := yX8_without) (by decide +kernel) (fun _ _ _ => Nat.le_of_ble_eq_true rfl) (fun X C => ?_)
  show G X (gQm X rvW rMW) 4 M [(0, .ref (xad X 0)), (1, .int a0)] [] 0 (f_X8_without F a0 M)
  unfold f_X8_without
  refine g_iload_n (pc := 0) C dX8_without_0 rfl 1 rfl ?_
  refine g_callR (pc := 1) C (g_runS (stk := []) C (c_X8_isLandlord a0 M) rfl rfl rfl wC_X8_isLandlord wS_X8_isLandlord wi_X8 wm_X8_209 hy_X8_isLandlord (by decide) (Nat.le_of_ble_eq_true rfl) dX8_without_1) (fun r1 => ?_)
  refine g_if_ne (pc := 4) (tgt := 10) C dX8_without_4 (by decide) ?_ ?_
  · refine g_aload_n (pc := 10) C dX8_without_10 rfl 0 rfl ?_
    refine g_iconst (pc := 11) C dX8_without_11 ic_iconst_0 ?_
    refine g_callV (pc := 12) C (g_runV (stk := []) C (c_X8_dressBest F (0 : Int32) M) rfl rfl rfl kd_0 rfl wC_X8_dressBest wI_X8_dressBest wV_X8_dressBest wi_X8 wm_X8_200 hy_X8_dressBest (by decide) (Nat.le_of_ble_eq_true rfl) dX8_without_12) (fun r2 => ?_)
    refine g_aload_n (pc := 15) C dX8_without_15 rfl 0 rfl ?_
    refine gf_X8_66 (pc := 16) (u := 43) C kd_0 rfl dX8_without_16 ?_
    refine gf_X8_203 (pc := 19) C kd_43 dX8_without_19 ?_
    refine g_lt (fun v3 => ?_)
    refine g_istore_n (pc := 22) (lv' := [(2, .int v3), (0, .ref (xad X 0)), (1, .int a0)]) C dX8_without_22 rfl (by decide) rfl ?_
    refine g_aload_n (pc := 23) C dX8_without_23 rfl 1 rfl ?_
    refine g_aload_n (pc := 24) C dX8_without_24 rfl 1 rfl ?_
    refine gf_X8_19 (pc := 25) (u := 3) C kd_0 rfl dX8_without_25 ?_
    refine g_iload_n (pc := 28) C dX8_without_28 rfl 2 rfl ?_
    refine g_callR (pc := 29) C (g_runVN (stk := [.ref (xad X 0)]) C (c_X7_ownedBy F 3 a0 kd_3 r2) rfl rfl rfl kd_3 rfl wC_X7_ownedBy wI_X7_ownedBy wV_X7_ownedBy wi_X7 wnm_X8_212 hy_X7_ownedBy (by decide) (Nat.le_of_ble_eq_true rfl) dX8_without_29) (fun r4 => ?_)
    refine g_callV (pc := 32) C (g_runV (stk := []) C (c_X8_dressBest F r4 r2) rfl rfl rfl kd_0 rfl wC_X8_dressBest wI_X8_dressBest wV_X8_dressBest wi_X8 wm_X8_200 hy_X8_dressBest (by decide) (Nat.le_of_ble_eq_true rfl) dX8_without_32) (fun r5 => ?_)
    refine g_aload_n (pc := 35) C dX8_without_35 rfl 1 rfl ?_
    refine gf_X8_66 (pc := 36) (u := 43) C kd_0 rfl dX8_without_36 ?_
    refine gf_X8_203 (pc := 39) C kd_43 dX8_without_39 ?_
    refine g_lt (fun v6 => ?_)
    refine g_istore_n (pc := 42) (lv' := [(3, .int v6), (2, .int v3), (0, .ref (xad X 0)), (1, .int a0)]) C dX8_without_42 rfl (by decide) rfl ?_
    refine g_iload_n (pc := 43) C dX8_without_43 rfl 1 rfl ?_
    refine g_iconst (pc := 44) C dX8_without_44 ic_iconst_m1 ?_
    refine g_icmp_eq (pc := 45) (tgt := 53) C dX8_without_45 (by decide) ?_ ?_
    · refine g_iconst (pc := 53) C dX8_without_53 ic_iconst_m1 ?_
      refine g_goto (pc := 54) (tgt := 60) C dX8_without_54 (by decide) ?_
      exact g_iret (pc := 60) C dX8_without_60 rfl rfl
    · refine g_iload_n (pc := 48) C dX8_without_48 rfl 0 rfl ?_
      refine g_iconst (pc := 49) C dX8_without_49 ic_iconst_m1 ?_
      refine g_icmp_ne (pc := 50) (tgt := 57) C dX8_without_50 (by decide) ?_ ?_
      · refine g_iload_n (pc := 57) C dX8_without_57 rfl 0 rfl ?_
        refine g_iload_n (pc := 58) C dX8_without_58 rfl 1 rfl ?_
        refine g_isub (pc := 59) C dX8_without_59 ?_
        exact g_iret (pc := 60) C dX8_without_60 rfl rfl
      · refine g_iconst (pc := 53) C dX8_without_53 ic_iconst_m1 ?_
        refine g_goto (pc := 54) (tgt := 60) C dX8_without_54 (by decide) ?_
        exact g_iret (pc := 60) C dX8_without_60 rfl rfl
  · refine g_ldc (pc := 7) C wk_X8_94 dX8_without_7 ?_
    exact g_iret (pc := 9) C dX8_without_9 rfl rfl

/-! X8_write -/
set_option maxRecDepth 100000 in
set_option maxHeartbeats 4000000 in
theorem c_X8_write (a0 : Int32) (a1 : Int32)  (M : gM) : gCt yX8_write cX8_write 3 (some .int) 1 22 (fun ad K V => [.ref (ad 0), .int a0, .int a1]) rvW rMW M (f_X8_write a0 a1 M) := by
  refine g_met (y := yX8_write) (by decide +kernel) (fun _ _ _ => Nat.le_of_ble_eq_true rfl) (fun X C => ?_)
  show G X (gQm X rvW rMW) 3 M [(0, .ref (xad X 0)), (1, .int a0), (2, .int a1)] [] 0 (f_X8_write a0 a1 M)
  unfold f_X8_write
  refine g_aload_n (pc := 0) C dX8_write_0 rfl 0 rfl ?_
  refine gf_X8_19 (pc := 1) (u := 3) C kd_0 rfl dX8_write_1 ?_
  refine g_iload_n (pc := 4) C dX8_write_4 rfl 2 rfl ?_
  refine g_callR (pc := 5) C (g_runVN (stk := []) C (c_X7_hasPart 3 a1 kd_3 M) rfl rfl rfl kd_3 rfl wC_X7_hasPart wI_X7_hasPart wV_X7_hasPart wi_X7 wnm_X8_146 hy_X7_hasPart (by decide) (Nat.le_of_ble_eq_true rfl) dX8_write_5) (fun r1 => ?_)
  refine g_if_ne (pc := 8) (tgt := 14) C dX8_write_8 (by decide) ?_ ?_
  · refine g_iload_n (pc := 14) C dX8_write_14 rfl 1 rfl ?_
    refine g_callR (pc := 15) C (g_runS (stk := []) C (c_X8_isHour a0 M) rfl rfl rfl wC_X8_isHour wS_X8_isHour wi_X8 wm_X8_235 hy_X8_isHour (by decide) (Nat.le_of_ble_eq_true rfl) dX8_write_15) (fun r2 => ?_)
    refine g_if_ne (pc := 18) (tgt := 24) C dX8_write_18 (by decide) ?_ ?_
    · refine g_aload_n (pc := 24) C dX8_write_24 rfl 0 rfl ?_
      refine gf_X8_82 (pc := 25) (u := 91) C kd_0 rfl dX8_write_25 ?_
      refine g_iload_n (pc := 28) C dX8_write_28 rfl 1 rfl ?_
      refine g_iload_n (pc := 29) C dX8_write_29 rfl 2 rfl ?_
      refine g_callW (pc := 30) C (g_runVN (stk := []) C (c_X0_add a0 a1 M) rfl rfl rfl kd_91 rfl wC_X0_add wI_X0_add wV_X0_add wi_X0 wnm_X8_276 hy_X0_add (by decide) (Nat.le_of_ble_eq_true rfl) dX8_write_30) (fun r3 => ?_)
      refine g_if_eq (pc := 33) (tgt := 46) C dX8_write_33 (by decide) ?_ ?_
      · refine g_ldc (pc := 46) C wk_X8_98 dX8_write_46 ?_
        exact g_iret (pc := 48) C dX8_write_48 rfl rfl
      · refine g_aload_n (pc := 36) C dX8_write_36 rfl 0 rfl ?_
        refine gf_X8_82 (pc := 37) (u := 91) C kd_0 rfl dX8_write_37 ?_
        refine gf_X8_122 (pc := 40) C kd_91 dX8_write_40 ?_
        refine g_goto (pc := 43) (tgt := 48) C dX8_write_43 (by decide) ?_
        exact g_iret (pc := 48) C dX8_write_48 rfl rfl
    · refine g_ldc (pc := 21) C wk_X8_94 dX8_write_21 ?_
      exact g_iret (pc := 23) C dX8_write_23 rfl rfl
  · refine g_ldc (pc := 11) C wk_X8_150 dX8_write_11 ?_
    exact g_iret (pc := 13) C dX8_write_13 rfl rfl

/-! X9_has -/
set_option maxRecDepth 100000 in
set_option maxHeartbeats 4000000 in
theorem c_X9_has (a0 : Int32) (a1 : Int32)  (M : gM) : gCt yX9_has cX9_has 2 (some .boolean) 0 0 (fun ad K V => [.int a0, .int a1]) rvR (rMR M) M (f_X9_has a0 a1 M) := by
  refine g_met (y := yX9_has) (by decide +kernel) (fun _ _ _ => Nat.le_of_ble_eq_true rfl) (fun X C => ?_)
  show G X (gQm X rvR (rMR M)) 2 M [(0, .int a0), (1, .int a1)] [] 0 (f_X9_has a0 a1 M)
  unfold f_X9_has
  refine g_iload_n (pc := 0) C dX9_has_0 rfl 0 rfl ?_
  refine g_iload_n (pc := 1) C dX9_has_1 rfl 1 rfl ?_
  refine g_ishr (pc := 2) C dX9_has_2 ?_
  refine g_iconst (pc := 3) C dX9_has_3 ic_iconst_1 ?_
  refine g_iand (pc := 4) C dX9_has_4 ?_
  refine g_iconst (pc := 5) C dX9_has_5 ic_iconst_1 ?_
  refine g_icmp_ne (pc := 6) (tgt := 13) C dX9_has_6 (by decide) ?_ ?_
  · refine g_iconst (pc := 13) C dX9_has_13 ic_iconst_0 ?_
    exact g_zretk (pc := 14) C rfl dX9_has_14 rfl rfl
  · refine g_iconst (pc := 9) C dX9_has_9 ic_iconst_1 ?_
    refine g_goto (pc := 10) (tgt := 14) C dX9_has_10 (by decide) ?_
    exact g_zretk (pc := 14) C rfl dX9_has_14 rfl rfl

/-! X9_in -/
set_option maxRecDepth 100000 in
set_option maxHeartbeats 4000000 in
theorem c_X9_in (a0 : Int64) (a1 : Int64) (a2 : Int64)  (M : gM) : gCt yX9_in cX9_in 6 (some .boolean) 0 0 (fun ad K V => [.long a0, .long a1, .long a2]) rvR (rMR M) M (f_X9_in a0 a1 a2 M) := by
  refine g_met (y := yX9_in) (by decide +kernel) (fun _ _ _ => Nat.le_of_ble_eq_true rfl) (fun X C => ?_)
  show G X (gQm X rvR (rMR M)) 6 M [(0, .long a0), (2, .long a1), (4, .long a2)] [] 0 (f_X9_in a0 a1 a2 M)
  unfold f_X9_in
  refine g_lload_n (pc := 0) C dX9_in_0 rfl 0 rfl ?_
  refine g_lload_n (pc := 1) C dX9_in_1 rfl 1 rfl ?_
  refine g_lcmp (pc := 2) C dX9_in_2 ?_
  refine g_if_lt (pc := 3) (tgt := 17) C dX9_in_3 (by decide) ?_ ?_
  · refine g_iconst (pc := 17) C dX9_in_17 ic_iconst_0 ?_
    exact g_zretk (pc := 18) C rfl dX9_in_18 rfl rfl
  · refine g_lload_n (pc := 6) C dX9_in_6 rfl 0 rfl ?_
    refine g_lload (pc := 7) C dX9_in_7 2 rfl ?_
    refine g_lcmp (pc := 9) C dX9_in_9 ?_
    refine g_if_gt (pc := 10) (tgt := 17) C dX9_in_10 (by decide) ?_ ?_
    · refine g_iconst (pc := 17) C dX9_in_17 ic_iconst_0 ?_
      exact g_zretk (pc := 18) C rfl dX9_in_18 rfl rfl
    · refine g_iconst (pc := 13) C dX9_in_13 ic_iconst_1 ?_
      refine g_goto (pc := 14) (tgt := 18) C dX9_in_14 (by decide) ?_
      exact g_zretk (pc := 18) C rfl dX9_in_18 rfl rfl

/-! X9_isFree -/
set_option maxRecDepth 100000 in
set_option maxHeartbeats 4000000 in
theorem g_X9_isFree_h5_b {X : gX} (C : gC X cX9_isFree RX9 5 (some .boolean) 1 25) (F : Nat) (a0 : Int32) (a1 : Int32) (M : gM) (k5 : Int32 → Int32 → Option Int32) (hk5 : ∀ (x3 : Int32) (x4 : Int32), G X (gQm X rvR (rMR M)) 5 M [(0, .ref (xad X 95)), (1, .int a0), (2, .int a1), (3, .int x3), (4, .int x4)] [] 5 (k5 x3 x4)) (x3 : Int32) (x4 : Int32) : G X (gQm X rvR (rMR M)) 5 M [(0, .ref (xad X 95)), (1, .int a0), (2, .int a1), (3, .int x3), (4, .int x4)] [] 5 (f_X9_isFree_h5_b F a0 a1 M k5 x3 x4) := by
  unfold f_X9_isFree_h5_b
  refine g_iload (pc := 5) C dX9_isFree_5 4 rfl ?_
  refine g_aload_n (pc := 7) C dX9_isFree_7 rfl 0 rfl ?_
  refine gf_X9_47 (pc := 8) (u := 108) C kd_95 rfl dX9_isFree_8 ?_
  refine g_iconst (pc := 11) C dX9_isFree_11 ic_iconst_0 ?_
  refine g_iald (pc := 12) C kd_108 dX9_isFree_12 ?_
  refine g_icmp_ge (pc := 13) (tgt := 77) C dX9_isFree_13 (by decide) ?_ ?_
  · refine g_iload_n (pc := 77) C dX9_isFree_77 rfl 3 rfl ?_
    exact g_zret (pc := 78) C dX9_isFree_78 rfl rfl
  · refine g_iload_n (pc := 16) C dX9_isFree_16 rfl 3 rfl ?_
    refine g_if_eq (pc := 17) (tgt := 69) C dX9_isFree_17 (by decide) ?_ ?_
    · refine g_iconst (pc := 69) C dX9_isFree_69 ic_iconst_0 ?_
      refine g_istore_n (pc := 70) (lv' := [(3, .int (0 : Int32)), (0, .ref (xad X 95)), (1, .int a0), (2, .int a1), (4, .int x4)]) C dX9_isFree_70 rfl (by decide) rfl ?_
      refine g_iinc (pc := 71) (j := 4) (lv' := [(4, .int (x4 + (1 : Int32))), (3, .int (0 : Int32)), (0, .ref (xad X 95)), (1, .int a0), (2, .int a1)]) C dX9_isFree_71 rfl (ii_1 _) (by decide) rfl ?_
      refine g_goto (pc := 74) (tgt := 5) C dX9_isFree_74 (by decide) ?_
      refine g_sub (lv' := [(0, .ref (xad X 95)), (1, .int a0), (2, .int a1), (3, .int (0 : Int32)), (4, .int (x4 + (1 : Int32)))]) [2, 3, 4, 1, 0] rfl ?_
      exact hk5 (0 : Int32) (x4 + (1 : Int32))
    · refine g_iload_n (pc := 20) C dX9_isFree_20 rfl 1 rfl ?_
      refine g_iload (pc := 21) C dX9_isFree_21 4 rfl ?_
      refine g_callR (pc := 23) C (g_runS (stk := []) C (c_X9_has a0 x4 M) rfl rfl rfl wC_X9_has wS_X9_has wi_X9 wm_X9_140 hy_X9_has (by decide) (Nat.le_of_ble_eq_true rfl) dX9_isFree_23) (fun r1 => ?_)
      refine g_if_eq (pc := 26) (tgt := 65) C dX9_isFree_26 (by decide) ?_ ?_
      · refine g_iconst (pc := 65) C dX9_isFree_65 ic_iconst_1 ?_
        refine g_goto (pc := 66) (tgt := 70) C dX9_isFree_66 (by decide) ?_
        refine g_istore_n (pc := 70) (lv' := [(3, .int (1 : Int32)), (0, .ref (xad X 95)), (1, .int a0), (2, .int a1), (4, .int x4)]) C dX9_isFree_70 rfl (by decide) rfl ?_
        refine g_iinc (pc := 71) (j := 4) (lv' := [(4, .int (x4 + (1 : Int32))), (3, .int (1 : Int32)), (0, .ref (xad X 95)), (1, .int a0), (2, .int a1)]) C dX9_isFree_71 rfl (ii_1 _) (by decide) rfl ?_
        refine g_goto (pc := 74) (tgt := 5) C dX9_isFree_74 (by decide) ?_
        refine g_sub (lv' := [(0, .ref (xad X 95)), (1, .int a0), (2, .int a1), (3, .int (1 : Int32)), (4, .int (x4 + (1 : Int32)))]) [2, 3, 4, 1, 0] rfl ?_
        exact hk5 (1 : Int32) (x4 + (1 : Int32))
      · refine g_iload_n (pc := 29) C dX9_isFree_29 rfl 2 rfl ?_
        refine g_i2l (pc := 30) C dX9_isFree_30 ?_
        refine g_aload_n (pc := 31) C dX9_isFree_31 rfl 0 rfl ?_
        refine gf_X9_29 (pc := 32) (u := 102) C kd_95 rfl dX9_isFree_32 ?_
        refine g_iload (pc := 35) C dX9_isFree_35 4 rfl ?_
        refine g_iald (pc := 37) C kd_102 dX9_isFree_37 ?_
        refine g_i2l (pc := 38) C dX9_isFree_38 ?_
        refine g_aload_n (pc := 39) C dX9_isFree_39 rfl 0 rfl ?_
        refine gf_X9_32 (pc := 40) (u := 103) C kd_95 rfl dX9_isFree_40 ?_
        refine g_iload (pc := 43) C dX9_isFree_43 4 rfl ?_
        refine g_iald (pc := 45) C kd_103 dX9_isFree_45 ?_
        refine g_i2l (pc := 46) C dX9_isFree_46 ?_
        refine g_callR (pc := 47) C (g_runS (stk := []) C (c_X9_in a1.toInt64 ((M 102 x4.toNatClampNeg).toInt64) ((M 103 x4.toNatClampNeg).toInt64) M) rfl rfl rfl wC_X9_in wS_X9_in wi_X9 wm_X9_89 hy_X9_in (by decide) (Nat.le_of_ble_eq_true rfl) dX9_isFree_47) (fun r2 => ?_)
        refine g_if_eq (pc := 50) (tgt := 69) C dX9_isFree_50 (by decide) ?_ ?_
        · refine g_iconst (pc := 69) C dX9_isFree_69 ic_iconst_0 ?_
          refine g_istore_n (pc := 70) (lv' := [(3, .int (0 : Int32)), (0, .ref (xad X 95)), (1, .int a0), (2, .int a1), (4, .int x4)]) C dX9_isFree_70 rfl (by decide) rfl ?_
          refine g_iinc (pc := 71) (j := 4) (lv' := [(4, .int (x4 + (1 : Int32))), (3, .int (0 : Int32)), (0, .ref (xad X 95)), (1, .int a0), (2, .int a1)]) C dX9_isFree_71 rfl (ii_1 _) (by decide) rfl ?_
          refine g_goto (pc := 74) (tgt := 5) C dX9_isFree_74 (by decide) ?_
          refine g_sub (lv' := [(0, .ref (xad X 95)), (1, .int a0), (2, .int a1), (3, .int (0 : Int32)), (4, .int (x4 + (1 : Int32)))]) [2, 3, 4, 1, 0] rfl ?_
          exact hk5 (0 : Int32) (x4 + (1 : Int32))
        · refine g_aload_n (pc := 53) C dX9_isFree_53 rfl 0 rfl ?_
          refine gf_X9_168 (pc := 54) C kd_95 dX9_isFree_54 ?_
          refine g_iload (pc := 57) C dX9_isFree_57 4 rfl ?_
          refine g_callR (pc := 59) C (g_runS (stk := []) C (c_X9_has (M 95 22) x4 M) rfl rfl rfl wC_X9_has wS_X9_has wi_X9 wm_X9_140 hy_X9_has (by decide) (Nat.le_of_ble_eq_true rfl) dX9_isFree_59) (fun r3 => ?_)
          refine g_if_ne (pc := 62) (tgt := 69) C dX9_isFree_62 (by decide) ?_ ?_
          · refine g_iconst (pc := 69) C dX9_isFree_69 ic_iconst_0 ?_
            refine g_istore_n (pc := 70) (lv' := [(3, .int (0 : Int32)), (0, .ref (xad X 95)), (1, .int a0), (2, .int a1), (4, .int x4)]) C dX9_isFree_70 rfl (by decide) rfl ?_
            refine g_iinc (pc := 71) (j := 4) (lv' := [(4, .int (x4 + (1 : Int32))), (3, .int (0 : Int32)), (0, .ref (xad X 95)), (1, .int a0), (2, .int a1)]) C dX9_isFree_71 rfl (ii_1 _) (by decide) rfl ?_
            refine g_goto (pc := 74) (tgt := 5) C dX9_isFree_74 (by decide) ?_
            refine g_sub (lv' := [(0, .ref (xad X 95)), (1, .int a0), (2, .int a1), (3, .int (0 : Int32)), (4, .int (x4 + (1 : Int32)))]) [2, 3, 4, 1, 0] rfl ?_
            exact hk5 (0 : Int32) (x4 + (1 : Int32))
          · refine g_iconst (pc := 65) C dX9_isFree_65 ic_iconst_1 ?_
            refine g_goto (pc := 66) (tgt := 70) C dX9_isFree_66 (by decide) ?_
            refine g_istore_n (pc := 70) (lv' := [(3, .int (1 : Int32)), (0, .ref (xad X 95)), (1, .int a0), (2, .int a1), (4, .int x4)]) C dX9_isFree_70 rfl (by decide) rfl ?_
            refine g_iinc (pc := 71) (j := 4) (lv' := [(4, .int (x4 + (1 : Int32))), (3, .int (1 : Int32)), (0, .ref (xad X 95)), (1, .int a0), (2, .int a1)]) C dX9_isFree_71 rfl (ii_1 _) (by decide) rfl ?_
            refine g_goto (pc := 74) (tgt := 5) C dX9_isFree_74 (by decide) ?_
            refine g_sub (lv' := [(0, .ref (xad X 95)), (1, .int a0), (2, .int a1), (3, .int (1 : Int32)), (4, .int (x4 + (1 : Int32)))]) [2, 3, 4, 1, 0] rfl ?_
            exact hk5 (1 : Int32) (x4 + (1 : Int32))

theorem g_X9_isFree_h5 {X : gX} (C : gC X cX9_isFree RX9 5 (some .boolean) 1 25) (F : Nat) (a0 : Int32) (a1 : Int32) (M : gM) : ∀ (n : Nat) (x3 : Int32) (x4 : Int32), G X (gQm X rvR (rMR M)) 5 M [(0, .ref (xad X 95)), (1, .int a0), (2, .int a1), (3, .int x3), (4, .int x4)] [] 5 (f_X9_isFree_h5 F a0 a1 M n x3 x4) := by
  intro n
  induction n with
  | zero =>
    intro x3 x4 r hr
    have hr2 : (none : Option Int32) = some r := hr
    cases hr2
  | succ n ih =>
    intro x3 x4
    exact g_X9_isFree_h5_b C F a0 a1 M _ ih x3 x4
set_option maxRecDepth 100000 in
set_option maxHeartbeats 4000000 in
theorem c_X9_isFree (F : Nat) (a0 : Int32) (a1 : Int32)  (M : gM) : gCt yX9_isFree cX9_isFree 5 (some .boolean) 1 25 (fun ad K V => [.ref (ad 95), .int a0, .int a1]) rvR (rMR M) M (f_X9_isFree F a0 a1 M) := by
  refine g_met (y := yX9_isFree) (by decide +kernel) (fun _ _ _ => Nat.le_of_ble_eq_true rfl) (fun X C => ?_)
  show G X (gQm X rvR (rMR M)) 5 M [(0, .ref (xad X 95)), (1, .int a0), (2, .int a1)] [] 0 (f_X9_isFree F a0 a1 M)
  unfold f_X9_isFree
  refine g_iconst (pc := 0) C dX9_isFree_0 ic_iconst_1 ?_
  refine g_istore_n (pc := 1) (lv' := [(3, .int (1 : Int32)), (0, .ref (xad X 95)), (1, .int a0), (2, .int a1)]) C dX9_isFree_1 rfl (by decide) rfl ?_
  refine g_iconst (pc := 2) C dX9_isFree_2 ic_iconst_0 ?_
  refine g_istore (pc := 3) (lv' := [(4, .int (0 : Int32)), (3, .int (1 : Int32)), (0, .ref (xad X 95)), (1, .int a0), (2, .int a1)]) C dX9_isFree_3 (by decide) rfl ?_
  refine g_sub (lv' := [(0, .ref (xad X 95)), (1, .int a0), (2, .int a1), (3, .int (1 : Int32)), (4, .int (0 : Int32))]) [2, 3, 4, 1, 0] rfl ?_
  exact g_X9_isFree_h5 C F a0 a1 M F (1 : Int32) (0 : Int32)

/-! X9_sumOf -/
set_option maxRecDepth 100000 in
set_option maxHeartbeats 4000000 in
theorem g_X9_sumOf_h5_b {X : gX} (C : gC X cX9_sumOf RX9 5 (some .int) 1 21) (F : Nat) (a0 : Int32) (a1 : Int32) (M : gM) (k5 : Int32 → Int32 → Option Int32) (hk5 : ∀ (x3 : Int32) (x4 : Int32), G X (gQm X rvR (rMR M)) 5 M [(0, .ref (xad X 95)), (1, .int a0), (2, .int a1), (3, .int x3), (4, .int x4)] [] 5 (k5 x3 x4)) (x3 : Int32) (x4 : Int32) : G X (gQm X rvR (rMR M)) 5 M [(0, .ref (xad X 95)), (1, .int a0), (2, .int a1), (3, .int x3), (4, .int x4)] [] 5 (f_X9_sumOf_h5_b F a0 a1 M k5 x3 x4) := by
  unfold f_X9_sumOf_h5_b
  refine g_iload (pc := 5) C dX9_sumOf_5 4 rfl ?_
  refine g_aload_n (pc := 7) C dX9_sumOf_7 rfl 0 rfl ?_
  refine gf_X9_47 (pc := 8) (u := 108) C kd_95 rfl dX9_sumOf_8 ?_
  refine g_iconst (pc := 11) C dX9_sumOf_11 ic_iconst_0 ?_
  refine g_iald (pc := 12) C kd_108 dX9_sumOf_12 ?_
  refine g_icmp_ge (pc := 13) (tgt := 47) C dX9_sumOf_13 (by decide) ?_ ?_
  · refine g_iload_n (pc := 47) C dX9_sumOf_47 rfl 3 rfl ?_
    exact g_iret (pc := 48) C dX9_sumOf_48 rfl rfl
  · refine g_iload_n (pc := 16) C dX9_sumOf_16 rfl 3 rfl ?_
    refine g_iload_n (pc := 17) C dX9_sumOf_17 rfl 2 rfl ?_
    refine g_iload (pc := 18) C dX9_sumOf_18 4 rfl ?_
    refine g_callR (pc := 20) C (g_runS (stk := [.int x3]) C (c_X9_has a1 x4 M) rfl rfl rfl wC_X9_has wS_X9_has wi_X9 wm_X9_140 hy_X9_has (by decide) (Nat.le_of_ble_eq_true rfl) dX9_sumOf_20) (fun r1 => ?_)
    refine g_if_eq (pc := 23) (tgt := 38) C dX9_sumOf_23 (by decide) ?_ ?_
    · refine g_iconst (pc := 38) C dX9_sumOf_38 ic_iconst_0 ?_
      refine g_iadd (pc := 39) C dX9_sumOf_39 ?_
      refine g_lt (fun v2 => ?_)
      refine g_istore_n (pc := 40) (lv' := [(3, .int v2), (0, .ref (xad X 95)), (1, .int a0), (2, .int a1), (4, .int x4)]) C dX9_sumOf_40 rfl (by decide) rfl ?_
      refine g_iinc (pc := 41) (j := 4) (lv' := [(4, .int (x4 + (1 : Int32))), (3, .int v2), (0, .ref (xad X 95)), (1, .int a0), (2, .int a1)]) C dX9_sumOf_41 rfl (ii_1 _) (by decide) rfl ?_
      refine g_goto (pc := 44) (tgt := 5) C dX9_sumOf_44 (by decide) ?_
      refine g_sub (lv' := [(0, .ref (xad X 95)), (1, .int a0), (2, .int a1), (3, .int v2), (4, .int (x4 + (1 : Int32)))]) [2, 3, 4, 1, 0] rfl ?_
      exact hk5 v2 (x4 + (1 : Int32))
    · refine g_aload_n (pc := 26) C dX9_sumOf_26 rfl 0 rfl ?_
      refine gf_X9_7 (pc := 27) (u := 96) C kd_95 rfl dX9_sumOf_27 ?_
      refine g_iload_n (pc := 30) C dX9_sumOf_30 rfl 1 rfl ?_
      refine g_iload (pc := 31) C dX9_sumOf_31 4 rfl ?_
      refine g_iadd (pc := 33) C dX9_sumOf_33 ?_
      refine g_iald (pc := 34) C kd_96 dX9_sumOf_34 ?_
      refine g_goto (pc := 35) (tgt := 39) C dX9_sumOf_35 (by decide) ?_
      refine g_iadd (pc := 39) C dX9_sumOf_39 ?_
      refine g_lt (fun v3 => ?_)
      refine g_istore_n (pc := 40) (lv' := [(3, .int v3), (0, .ref (xad X 95)), (1, .int a0), (2, .int a1), (4, .int x4)]) C dX9_sumOf_40 rfl (by decide) rfl ?_
      refine g_iinc (pc := 41) (j := 4) (lv' := [(4, .int (x4 + (1 : Int32))), (3, .int v3), (0, .ref (xad X 95)), (1, .int a0), (2, .int a1)]) C dX9_sumOf_41 rfl (ii_1 _) (by decide) rfl ?_
      refine g_goto (pc := 44) (tgt := 5) C dX9_sumOf_44 (by decide) ?_
      refine g_sub (lv' := [(0, .ref (xad X 95)), (1, .int a0), (2, .int a1), (3, .int v3), (4, .int (x4 + (1 : Int32)))]) [2, 3, 4, 1, 0] rfl ?_
      exact hk5 v3 (x4 + (1 : Int32))

theorem g_X9_sumOf_h5 {X : gX} (C : gC X cX9_sumOf RX9 5 (some .int) 1 21) (F : Nat) (a0 : Int32) (a1 : Int32) (M : gM) : ∀ (n : Nat) (x3 : Int32) (x4 : Int32), G X (gQm X rvR (rMR M)) 5 M [(0, .ref (xad X 95)), (1, .int a0), (2, .int a1), (3, .int x3), (4, .int x4)] [] 5 (f_X9_sumOf_h5 F a0 a1 M n x3 x4) := by
  intro n
  induction n with
  | zero =>
    intro x3 x4 r hr
    have hr2 : (none : Option Int32) = some r := hr
    cases hr2
  | succ n ih =>
    intro x3 x4
    exact g_X9_sumOf_h5_b C F a0 a1 M _ ih x3 x4
set_option maxRecDepth 100000 in
set_option maxHeartbeats 4000000 in
theorem c_X9_sumOf (F : Nat) (a0 : Int32) (a1 : Int32)  (M : gM) : gCt yX9_sumOf cX9_sumOf 5 (some .int) 1 21 (fun ad K V => [.ref (ad 95), .int a0, .int a1]) rvR (rMR M) M (f_X9_sumOf F a0 a1 M) := by
  refine g_met (y := yX9_sumOf) (by decide +kernel) (fun _ _ _ => Nat.le_of_ble_eq_true rfl) (fun X C => ?_)
  show G X (gQm X rvR (rMR M)) 5 M [(0, .ref (xad X 95)), (1, .int a0), (2, .int a1)] [] 0 (f_X9_sumOf F a0 a1 M)
  unfold f_X9_sumOf
  refine g_iconst (pc := 0) C dX9_sumOf_0 ic_iconst_0 ?_
  refine g_istore_n (pc := 1) (lv' := [(3, .int (0 : Int32)), (0, .ref (xad X 95)), (1, .int a0), (2, .int a1)]) C dX9_sumOf_1 rfl (by decide) rfl ?_
  refine g_iconst (pc := 2) C dX9_sumOf_2 ic_iconst_0 ?_
  refine g_istore (pc := 3) (lv' := [(4, .int (0 : Int32)), (3, .int (0 : Int32)), (0, .ref (xad X 95)), (1, .int a0), (2, .int a1)]) C dX9_sumOf_3 (by decide) rfl ?_
  refine g_sub (lv' := [(0, .ref (xad X 95)), (1, .int a0), (2, .int a1), (3, .int (0 : Int32)), (4, .int (0 : Int32))]) [2, 3, 4, 1, 0] rfl ?_
  exact g_X9_sumOf_h5 C F a0 a1 M F (0 : Int32) (0 : Int32)

/-! X9_isFor -/
set_option maxRecDepth 100000 in
set_option maxHeartbeats 4000000 in
theorem c_X9_isFor (F : Nat) (a0 : Int32) (a1 : Int32) (a2 : Int32)  (M : gM) : gCt yX9_isFor cX9_isFor 4 (some .boolean) 2 49 (fun ad K V => [.ref (ad 95), .int a0, .int a1, .int a2]) rvR (rMR M) M (f_X9_isFor F a0 a1 a2 M) := by
  refine g_met (y := yX9_isFor) (by decide +kernel) (fun _ _ _ => Nat.le_of_ble_eq_true rfl) (fun X C => ?_)
  show G X (gQm X rvR (rMR M)) 4 M [(0, .ref (xad X 95)), (1, .int a0), (2, .int a1), (3, .int a2)] [] 0 (f_X9_isFor F a0 a1 a2 M)
  unfold f_X9_isFor
  refine g_aload_n (pc := 0) C dX9_isFor_0 rfl 0 rfl ?_
  refine g_iload_n (pc := 1) C dX9_isFor_1 rfl 2 rfl ?_
  refine g_aload_n (pc := 2) C dX9_isFor_2 rfl 0 rfl ?_
  refine gf_X9_38 (pc := 3) (u := 105) C kd_95 rfl dX9_isFor_3 ?_
  refine g_iload_n (pc := 6) C dX9_isFor_6 rfl 3 rfl ?_
  refine g_iald (pc := 7) C kd_105 dX9_isFor_7 ?_
  refine g_callR (pc := 8) C (g_runV (stk := []) C (c_X9_isFree F a1 (M 105 a2.toNatClampNeg) M) rfl rfl rfl kd_95 rfl wC_X9_isFree wI_X9_isFree wV_X9_isFree wi_X9 wm_X9_198 hy_X9_isFree (by decide) (Nat.le_of_ble_eq_true rfl) dX9_isFor_8) (fun r1 => ?_)
  refine g_if_eq (pc := 11) (tgt := 45) C dX9_isFor_11 (by decide) ?_ ?_
  · refine g_iconst (pc := 45) C dX9_isFor_45 ic_iconst_0 ?_
    exact g_zretk (pc := 46) C rfl dX9_isFor_46 rfl rfl
  · refine g_aload_n (pc := 14) C dX9_isFor_14 rfl 0 rfl ?_
    refine g_iload_n (pc := 15) C dX9_isFor_15 rfl 1 rfl ?_
    refine g_iload_n (pc := 16) C dX9_isFor_16 rfl 2 rfl ?_
    refine g_callR (pc := 17) C (g_runV (stk := []) C (c_X9_sumOf F a0 a1 M) rfl rfl rfl kd_95 rfl wC_X9_sumOf wI_X9_sumOf wV_X9_sumOf wi_X9 wm_X9_171 hy_X9_sumOf (by decide) (Nat.le_of_ble_eq_true rfl) dX9_isFor_17) (fun r2 => ?_)
    refine g_i2l (pc := 20) C dX9_isFor_20 ?_
    refine g_aload_n (pc := 21) C dX9_isFor_21 rfl 0 rfl ?_
    refine gf_X9_41 (pc := 22) (u := 106) C kd_95 rfl dX9_isFor_22 ?_
    refine g_iload_n (pc := 25) C dX9_isFor_25 rfl 3 rfl ?_
    refine g_iald (pc := 26) C kd_106 dX9_isFor_26 ?_
    refine g_i2l (pc := 27) C dX9_isFor_27 ?_
    refine g_aload_n (pc := 28) C dX9_isFor_28 rfl 0 rfl ?_
    refine gf_X9_44 (pc := 29) (u := 107) C kd_95 rfl dX9_isFor_29 ?_
    refine g_iload_n (pc := 32) C dX9_isFor_32 rfl 3 rfl ?_
    refine g_iald (pc := 33) C kd_107 dX9_isFor_33 ?_
    refine g_i2l (pc := 34) C dX9_isFor_34 ?_
    refine g_callR (pc := 35) C (g_runS (stk := []) C (c_X9_in r2.toInt64 ((M 106 a2.toNatClampNeg).toInt64) ((M 107 a2.toNatClampNeg).toInt64) M) rfl rfl rfl wC_X9_in wS_X9_in wi_X9 wm_X9_89 hy_X9_in (by decide) (Nat.le_of_ble_eq_true rfl) dX9_isFor_35) (fun r3 => ?_)
    refine g_if_eq (pc := 38) (tgt := 45) C dX9_isFor_38 (by decide) ?_ ?_
    · refine g_iconst (pc := 45) C dX9_isFor_45 ic_iconst_0 ?_
      exact g_zretk (pc := 46) C rfl dX9_isFor_46 rfl rfl
    · refine g_iconst (pc := 41) C dX9_isFor_41 ic_iconst_1 ?_
      refine g_goto (pc := 42) (tgt := 46) C dX9_isFor_42 (by decide) ?_
      exact g_zretk (pc := 46) C rfl dX9_isFor_46 rfl rfl

/-! X9_addScene -/
set_option maxRecDepth 100000 in
set_option maxHeartbeats 4000000 in
theorem g_X9_addScene_h62_b {X : gX} (C : gC X cX9_addScene RX9 5 none 3 72) (F : Nat) (a0 : Int32) (a1 : Int32) (k36 : Int32 → gM → Option gM) (hk36 : ∀ (x3 : Int32) (M : gM), G X (gQm X rvV rMV) 5 M [(0, .ref (xad X 95)), (1, .int a0), (2, .int a1), (3, .int x3)] [] 36 (k36 x3 M)) (k62 : Int32 → Int32 → gM → Option gM) (hk62 : ∀ (x3 : Int32) (x4 : Int32) (M : gM), G X (gQm X rvV rMV) 5 M [(0, .ref (xad X 95)), (1, .int a0), (2, .int a1), (3, .int x3), (4, .int x4)] [] 62 (k62 x3 x4 M)) (x3 : Int32) (x4 : Int32) (M : gM) : G X (gQm X rvV rMV) 5 M [(0, .ref (xad X 95)), (1, .int a0), (2, .int a1), (3, .int x3), (4, .int x4)] [] 62 (f_X9_addScene_h62_b F a0 a1 k36 k62 x3 x4 M) := by
  unfold f_X9_addScene_h62_b
  refine g_iload (pc := 62) C dX9_addScene_62 4 rfl ?_
  refine g_sipush (pc := 64) C dX9_addScene_64 ic_sipush_1024 ?_
  refine g_icmp_ge (pc := 67) (tgt := 113) C dX9_addScene_67 (by decide) ?_ ?_
  · refine g_iinc (pc := 113) (j := 3) (lv' := [(3, .int (x3 + (1 : Int32))), (0, .ref (xad X 95)), (1, .int a0), (2, .int a1), (4, .int x4)]) C dX9_addScene_113 rfl (ii_1 _) (by decide) rfl ?_
    refine g_goto (pc := 116) (tgt := 36) C dX9_addScene_116 (by decide) ?_
    refine g_sub (lv' := [(0, .ref (xad X 95)), (1, .int a0), (2, .int a1), (3, .int (x3 + (1 : Int32)))]) [1, 2, 3, 0] rfl ?_
    exact hk36 (x3 + (1 : Int32)) M
  · refine g_aload_n (pc := 70) C dX9_addScene_70 rfl 0 rfl ?_
    refine gf_X9_66 (pc := 71) (u := 113) C kd_95 rfl dX9_addScene_71 ?_
    refine g_iload (pc := 74) C dX9_addScene_74 4 rfl ?_
    refine g_zald (pc := 76) C kd_113 dX9_addScene_76 ?_
    refine g_if_eq (pc := 77) (tgt := 107) C dX9_addScene_77 (by decide) ?_ ?_
    · refine g_iinc (pc := 107) (j := 4) (lv' := [(4, .int (x4 + (1 : Int32))), (0, .ref (xad X 95)), (1, .int a0), (2, .int a1), (3, .int x3)]) C dX9_addScene_107 rfl (ii_1 _) (by decide) rfl ?_
      refine g_goto (pc := 110) (tgt := 62) C dX9_addScene_110 (by decide) ?_
      refine g_sub (lv' := [(0, .ref (xad X 95)), (1, .int a0), (2, .int a1), (3, .int x3), (4, .int (x4 + (1 : Int32)))]) [1, 2, 3, 4, 0] rfl ?_
      exact hk62 x3 (x4 + (1 : Int32)) M
    · refine g_iload (pc := 80) C dX9_addScene_80 4 rfl ?_
      refine g_aload_n (pc := 82) C dX9_addScene_82 rfl 0 rfl ?_
      refine gf_X9_57 (pc := 83) (u := 110) C kd_95 rfl dX9_addScene_83 ?_
      refine g_iload_n (pc := 86) C dX9_addScene_86 rfl 3 rfl ?_
      refine g_iald (pc := 87) C kd_110 dX9_addScene_87 ?_
      refine g_iand (pc := 88) C dX9_addScene_88 ?_
      refine g_if_ne (pc := 89) (tgt := 107) C dX9_addScene_89 (by decide) ?_ ?_
      · refine g_iinc (pc := 107) (j := 4) (lv' := [(4, .int (x4 + (1 : Int32))), (0, .ref (xad X 95)), (1, .int a0), (2, .int a1), (3, .int x3)]) C dX9_addScene_107 rfl (ii_1 _) (by decide) rfl ?_
        refine g_goto (pc := 110) (tgt := 62) C dX9_addScene_110 (by decide) ?_
        refine g_sub (lv' := [(0, .ref (xad X 95)), (1, .int a0), (2, .int a1), (3, .int x3), (4, .int (x4 + (1 : Int32)))]) [1, 2, 3, 4, 0] rfl ?_
        exact hk62 x3 (x4 + (1 : Int32)) M
      · refine g_aload_n (pc := 92) C dX9_addScene_92 rfl 0 rfl ?_
        refine gf_X9_69 (pc := 93) (u := 114) C kd_95 rfl dX9_addScene_93 ?_
        refine g_iload (pc := 96) C dX9_addScene_96 4 rfl ?_
        refine g_aload_n (pc := 98) C dX9_addScene_98 rfl 0 rfl ?_
        refine gf_X9_57 (pc := 99) (u := 110) C kd_95 rfl dX9_addScene_99 ?_
        refine g_iload_n (pc := 102) C dX9_addScene_102 rfl 3 rfl ?_
        refine g_iald (pc := 103) C kd_110 dX9_addScene_103 ?_
        refine g_ior (pc := 104) C dX9_addScene_104 ?_
        refine g_iconst (pc := 105) C dX9_addScene_105 ic_iconst_1 ?_
        refine g_zast (pc := 106) C kd_114 dX9_addScene_106 ?_
        refine g_ltM (fun M2 => ?_)
        refine g_iinc (pc := 107) (j := 4) (lv' := [(4, .int (x4 + (1 : Int32))), (0, .ref (xad X 95)), (1, .int a0), (2, .int a1), (3, .int x3)]) C dX9_addScene_107 rfl (ii_1 _) (by decide) rfl ?_
        refine g_goto (pc := 110) (tgt := 62) C dX9_addScene_110 (by decide) ?_
        refine g_sub (lv' := [(0, .ref (xad X 95)), (1, .int a0), (2, .int a1), (3, .int x3), (4, .int (x4 + (1 : Int32)))]) [1, 2, 3, 4, 0] rfl ?_
        exact hk62 x3 (x4 + (1 : Int32)) M2

theorem g_X9_addScene_h62 {X : gX} (C : gC X cX9_addScene RX9 5 none 3 72) (F : Nat) (a0 : Int32) (a1 : Int32) (k36 : Int32 → gM → Option gM) (hk36 : ∀ (x3 : Int32) (M : gM), G X (gQm X rvV rMV) 5 M [(0, .ref (xad X 95)), (1, .int a0), (2, .int a1), (3, .int x3)] [] 36 (k36 x3 M)) : ∀ (n : Nat) (x3 : Int32) (x4 : Int32) (M : gM), G X (gQm X rvV rMV) 5 M [(0, .ref (xad X 95)), (1, .int a0), (2, .int a1), (3, .int x3), (4, .int x4)] [] 62 (f_X9_addScene_h62 F a0 a1 k36 n x3 x4 M) := by
  intro n
  induction n with
  | zero =>
    intro x3 x4 M r hr
    have hr2 : (none : Option gM) = some r := hr
    cases hr2
  | succ n ih =>
    intro x3 x4 M
    exact g_X9_addScene_h62_b C F a0 a1 k36 hk36 _ ih x3 x4 M
set_option maxRecDepth 100000 in
set_option maxHeartbeats 4000000 in
theorem g_X9_addScene_h36_b {X : gX} (C : gC X cX9_addScene RX9 5 none 3 72) (F : Nat) (a0 : Int32) (a1 : Int32) (k36 : Int32 → gM → Option gM) (hk36 : ∀ (x3 : Int32) (M : gM), G X (gQm X rvV rMV) 5 M [(0, .ref (xad X 95)), (1, .int a0), (2, .int a1), (3, .int x3)] [] 36 (k36 x3 M)) (x3 : Int32) (M : gM) : G X (gQm X rvV rMV) 5 M [(0, .ref (xad X 95)), (1, .int a0), (2, .int a1), (3, .int x3)] [] 36 (f_X9_addScene_h36_b F a0 a1 k36 x3 M) := by
  unfold f_X9_addScene_h36_b
  refine g_iload_n (pc := 36) C dX9_addScene_36 rfl 3 rfl ?_
  refine g_aload_n (pc := 37) C dX9_addScene_37 rfl 0 rfl ?_
  refine gf_X9_165 (pc := 38) C kd_95 dX9_addScene_38 ?_
  refine g_icmp_ge (pc := 41) (tgt := 119) C dX9_addScene_41 (by decide) ?_ ?_
  · exact g_vret (pc := 119) C dX9_addScene_119 rfl rfl
  · refine g_aload_n (pc := 44) C dX9_addScene_44 rfl 0 rfl ?_
    refine g_iload_n (pc := 45) C dX9_addScene_45 rfl 1 rfl ?_
    refine g_aload_n (pc := 46) C dX9_addScene_46 rfl 0 rfl ?_
    refine gf_X9_57 (pc := 47) (u := 110) C kd_95 rfl dX9_addScene_47 ?_
    refine g_iload_n (pc := 50) C dX9_addScene_50 rfl 3 rfl ?_
    refine g_iald (pc := 51) C kd_110 dX9_addScene_51 ?_
    refine g_iload_n (pc := 52) C dX9_addScene_52 rfl 2 rfl ?_
    refine g_callR (pc := 53) C (g_runV (stk := []) C (c_X9_isFor F a0 (M 110 x3.toNatClampNeg) a1 M) rfl rfl rfl kd_95 rfl wC_X9_isFor wI_X9_isFor wV_X9_isFor wi_X9 wm_X9_201 hy_X9_isFor (by decide) (Nat.le_of_ble_eq_true rfl) dX9_addScene_53) (fun r1 => ?_)
    refine g_if_eq (pc := 56) (tgt := 113) C dX9_addScene_56 (by decide) ?_ ?_
    · refine g_iinc (pc := 113) (j := 3) (lv' := [(3, .int (x3 + (1 : Int32))), (0, .ref (xad X 95)), (1, .int a0), (2, .int a1)]) C dX9_addScene_113 rfl (ii_1 _) (by decide) rfl ?_
      refine g_goto (pc := 116) (tgt := 36) C dX9_addScene_116 (by decide) ?_
      refine g_sub (lv' := [(0, .ref (xad X 95)), (1, .int a0), (2, .int a1), (3, .int (x3 + (1 : Int32)))]) [1, 2, 3, 0] rfl ?_
      exact hk36 (x3 + (1 : Int32)) M
    · refine g_iconst (pc := 59) C dX9_addScene_59 ic_iconst_0 ?_
      refine g_istore (pc := 60) (lv' := [(4, .int (0 : Int32)), (0, .ref (xad X 95)), (1, .int a0), (2, .int a1), (3, .int x3)]) C dX9_addScene_60 (by decide) rfl ?_
      refine g_sub (lv' := [(0, .ref (xad X 95)), (1, .int a0), (2, .int a1), (3, .int x3), (4, .int (0 : Int32))]) [1, 2, 3, 4, 0] rfl ?_
      exact g_X9_addScene_h62 C F a0 a1 k36 hk36 F x3 (0 : Int32) M

theorem g_X9_addScene_h36 {X : gX} (C : gC X cX9_addScene RX9 5 none 3 72) (F : Nat) (a0 : Int32) (a1 : Int32) : ∀ (n : Nat) (x3 : Int32) (M : gM), G X (gQm X rvV rMV) 5 M [(0, .ref (xad X 95)), (1, .int a0), (2, .int a1), (3, .int x3)] [] 36 (f_X9_addScene_h36 F a0 a1 n x3 M) := by
  intro n
  induction n with
  | zero =>
    intro x3 M r hr
    have hr2 : (none : Option gM) = some r := hr
    cases hr2
  | succ n ih =>
    intro x3 M
    exact g_X9_addScene_h36_b C F a0 a1 _ ih x3 M
set_option maxRecDepth 100000 in
set_option maxHeartbeats 4000000 in
theorem g_X9_addScene_h2_b {X : gX} (C : gC X cX9_addScene RX9 5 none 3 72) (F : Nat) (a0 : Int32) (a1 : Int32) (k2 : Int32 → gM → Option gM) (hk2 : ∀ (x3 : Int32) (M : gM), G X (gQm X rvV rMV) 5 M [(0, .ref (xad X 95)), (1, .int a0), (2, .int a1), (3, .int x3)] [] 2 (k2 x3 M)) (x3 : Int32) (M : gM) : G X (gQm X rvV rMV) 5 M [(0, .ref (xad X 95)), (1, .int a0), (2, .int a1), (3, .int x3)] [] 2 (f_X9_addScene_h2_b F a0 a1 k2 x3 M) := by
  unfold f_X9_addScene_h2_b
  refine g_iload_n (pc := 2) C dX9_addScene_2 rfl 3 rfl ?_
  refine g_sipush (pc := 3) C dX9_addScene_3 ic_sipush_1024 ?_
  refine g_icmp_ge (pc := 6) (tgt := 34) C dX9_addScene_6 (by decide) ?_ ?_
  · refine g_iconst (pc := 34) C dX9_addScene_34 ic_iconst_0 ?_
    refine g_istore_n (pc := 35) (lv' := [(3, .int (0 : Int32)), (0, .ref (xad X 95)), (1, .int a0), (2, .int a1)]) C dX9_addScene_35 rfl (by decide) rfl ?_
    refine g_sub (lv' := [(0, .ref (xad X 95)), (1, .int a0), (2, .int a1), (3, .int (0 : Int32))]) [1, 2, 3, 0] rfl ?_
    exact g_X9_addScene_h36 C F a0 a1 F (0 : Int32) M
  · refine g_aload_n (pc := 9) C dX9_addScene_9 rfl 0 rfl ?_
    refine gf_X9_66 (pc := 10) (u := 113) C kd_95 rfl dX9_addScene_10 ?_
    refine g_iload_n (pc := 13) C dX9_addScene_13 rfl 3 rfl ?_
    refine g_aload_n (pc := 14) C dX9_addScene_14 rfl 0 rfl ?_
    refine gf_X9_69 (pc := 15) (u := 114) C kd_95 rfl dX9_addScene_15 ?_
    refine g_iload_n (pc := 18) C dX9_addScene_18 rfl 3 rfl ?_
    refine g_zald (pc := 19) C kd_114 dX9_addScene_19 ?_
    refine g_zast (pc := 20) C kd_113 dX9_addScene_20 ?_
    refine g_ltM (fun M3 => ?_)
    refine g_aload_n (pc := 21) C dX9_addScene_21 rfl 0 rfl ?_
    refine gf_X9_69 (pc := 22) (u := 114) C kd_95 rfl dX9_addScene_22 ?_
    refine g_iload_n (pc := 25) C dX9_addScene_25 rfl 3 rfl ?_
    refine g_iconst (pc := 26) C dX9_addScene_26 ic_iconst_0 ?_
    refine g_zast (pc := 27) C kd_114 dX9_addScene_27 ?_
    refine g_ltM (fun M4 => ?_)
    refine g_iinc (pc := 28) (j := 3) (lv' := [(3, .int (x3 + (1 : Int32))), (0, .ref (xad X 95)), (1, .int a0), (2, .int a1)]) C dX9_addScene_28 rfl (ii_1 _) (by decide) rfl ?_
    refine g_goto (pc := 31) (tgt := 2) C dX9_addScene_31 (by decide) ?_
    refine g_sub (lv' := [(0, .ref (xad X 95)), (1, .int a0), (2, .int a1), (3, .int (x3 + (1 : Int32)))]) [1, 2, 3, 0] rfl ?_
    exact hk2 (x3 + (1 : Int32)) M4

theorem g_X9_addScene_h2 {X : gX} (C : gC X cX9_addScene RX9 5 none 3 72) (F : Nat) (a0 : Int32) (a1 : Int32) : ∀ (n : Nat) (x3 : Int32) (M : gM), G X (gQm X rvV rMV) 5 M [(0, .ref (xad X 95)), (1, .int a0), (2, .int a1), (3, .int x3)] [] 2 (f_X9_addScene_h2 F a0 a1 n x3 M) := by
  intro n
  induction n with
  | zero =>
    intro x3 M r hr
    have hr2 : (none : Option gM) = some r := hr
    cases hr2
  | succ n ih =>
    intro x3 M
    exact g_X9_addScene_h2_b C F a0 a1 _ ih x3 M
set_option maxRecDepth 100000 in
set_option maxHeartbeats 4000000 in
theorem c_X9_addScene (F : Nat) (a0 : Int32) (a1 : Int32)  (M : gM) : gCt yX9_addScene cX9_addScene 5 none 3 72 (fun ad K V => [.ref (ad 95), .int a0, .int a1]) rvV rMV M (f_X9_addScene F a0 a1 M) := by
  refine g_met (y := yX9_addScene) (by decide +kernel) (fun _ _ _ => Nat.le_of_ble_eq_true rfl) (fun X C => ?_)
  show G X (gQm X rvV rMV) 5 M [(0, .ref (xad X 95)), (1, .int a0), (2, .int a1)] [] 0 (f_X9_addScene F a0 a1 M)
  unfold f_X9_addScene
  refine g_iconst (pc := 0) C dX9_addScene_0 ic_iconst_0 ?_
  refine g_istore_n (pc := 1) (lv' := [(3, .int (0 : Int32)), (0, .ref (xad X 95)), (1, .int a0), (2, .int a1)]) C dX9_addScene_1 rfl (by decide) rfl ?_
  refine g_sub (lv' := [(0, .ref (xad X 95)), (1, .int a0), (2, .int a1), (3, .int (0 : Int32))]) [1, 2, 3, 0] rfl ?_
  exact g_X9_addScene_h2 C F a0 a1 F (0 : Int32) M

