/-! X9_best -/
set_option maxRecDepth 100000 in
set_option maxHeartbeats 4000000 in
theorem g_X9_best_b89 {X : gX} (C : gC X cX9_best RX9 7 (some .int) 2 45) (F : Nat) (a0 : Int32) (a1 : Int32) (a2 : Int32) (M : gM) (k7 : Int32 → Int32 → Option Int32) (hk7 : ∀ (x4 : Int32) (x5 : Int32), G X (gQm X rvR (rMR M)) 7 M [(0, .ref (xad X 95)), (1, .int a0), (2, .int a1), (3, .int a2), (4, .int x4), (5, .int x5)] [] 7 (k7 x4 x5)) (x4 : Int32) (x5 : Int32) (s0 : Int32) (s1 : Int32) (s3 : Int32) : G X (gQm X rvR (rMR M)) 7 M [(0, .ref (xad X 95)), (1, .int a0), (2, .int a1), (3, .int a2), (4, .int x4), (5, .int x5)] [.int s0, .int s1, .ref (xad X 112), .int s3] 89 (f_X9_best_b89 F a0 a1 a2 M k7 x4 x5 s0 s1 s3) := by
  unfold f_X9_best_b89
  refine g_iadd (pc := 89) C dX9_best_89 ?_
  refine g_iald (pc := 90) C kd_112 dX9_best_90 ?_
  refine g_iadd (pc := 91) C dX9_best_91 ?_
  refine g_lt (fun v2 => ?_)
  refine g_istore (pc := 92) (lv' := [(6, .int v2), (0, .ref (xad X 95)), (1, .int a0), (2, .int a1), (3, .int a2), (4, .int x4), (5, .int x5)]) C dX9_best_92 (by decide) rfl ?_
  refine g_iload (pc := 94) C dX9_best_94 0 rfl ?_
  refine g_iload (pc := 96) C dX9_best_96 5 rfl ?_
  refine g_icmp_ge (pc := 98) (tgt := 106) C dX9_best_98 (by decide) ?_ ?_
  · refine g_iload (pc := 106) C dX9_best_106 5 rfl ?_
    refine g_istore (pc := 108) (lv' := [(4, .int x4), (6, .int v2), (0, .ref (xad X 95)), (1, .int a0), (2, .int a1), (3, .int a2), (5, .int x5)]) C dX9_best_108 (by decide) rfl ?_
    refine g_iinc (pc := 110) (j := 6) (lv' := [(5, .int (x5 + (1 : Int32))), (4, .int x4), (6, .int v2), (0, .ref (xad X 95)), (1, .int a0), (2, .int a1), (3, .int a2)]) C dX9_best_110 rfl (ii_1 _) (by decide) rfl ?_
    refine g_goto (pc := 113) (tgt := 7) C dX9_best_113 (by decide) ?_
    refine g_sub (lv' := [(0, .ref (xad X 95)), (1, .int a0), (2, .int a1), (3, .int a2), (4, .int x4), (5, .int (x5 + (1 : Int32)))]) [3, 4, 5, 6, 1, 0] rfl ?_
    exact hk7 x4 (x5 + (1 : Int32))
  · refine g_iload (pc := 101) C dX9_best_101 0 rfl ?_
    refine g_goto (pc := 103) (tgt := 108) C dX9_best_103 (by decide) ?_
    refine g_istore (pc := 108) (lv' := [(4, .int v2), (6, .int v2), (0, .ref (xad X 95)), (1, .int a0), (2, .int a1), (3, .int a2), (5, .int x5)]) C dX9_best_108 (by decide) rfl ?_
    refine g_iinc (pc := 110) (j := 6) (lv' := [(5, .int (x5 + (1 : Int32))), (4, .int v2), (6, .int v2), (0, .ref (xad X 95)), (1, .int a0), (2, .int a1), (3, .int a2)]) C dX9_best_110 rfl (ii_1 _) (by decide) rfl ?_
    refine g_goto (pc := 113) (tgt := 7) C dX9_best_113 (by decide) ?_
    refine g_sub (lv' := [(0, .ref (xad X 95)), (1, .int a0), (2, .int a1), (3, .int a2), (4, .int v2), (5, .int (x5 + (1 : Int32)))]) [3, 4, 5, 6, 1, 0] rfl ?_
    exact hk7 v2 (x5 + (1 : Int32))

set_option maxRecDepth 100000 in
set_option maxHeartbeats 4000000 in
theorem g_X9_best_b50 {X : gX} (C : gC X cX9_best RX9 7 (some .int) 2 45) (F : Nat) (a0 : Int32) (a1 : Int32) (a2 : Int32) (M : gM) (k7 : Int32 → Int32 → Option Int32) (hk7 : ∀ (x4 : Int32) (x5 : Int32), G X (gQm X rvR (rMR M)) 7 M [(0, .ref (xad X 95)), (1, .int a0), (2, .int a1), (3, .int a2), (4, .int x4), (5, .int x5)] [] 7 (k7 x4 x5)) (x4 : Int32) (x5 : Int32) : G X (gQm X rvR (rMR M)) 7 M [(0, .ref (xad X 95)), (1, .int a0), (2, .int a1), (3, .int a2), (4, .int x4), (5, .int x5)] [] 50 (f_X9_best_b50 F a0 a1 a2 M k7 x4 x5) := by
  unfold f_X9_best_b50
  refine g_aload_n (pc := 50) C dX9_best_50 rfl 0 rfl ?_
  refine g_iload_n (pc := 51) C dX9_best_51 rfl 1 rfl ?_
  refine g_bipush (pc := 52) C dX9_best_52 ic_bipush_10 ?_
  refine g_iadd (pc := 54) C dX9_best_54 ?_
  refine g_iload (pc := 55) C dX9_best_55 5 rfl ?_
  refine g_callR (pc := 57) C (g_runV (stk := []) C (c_X9_sumOf F (a0 + (10 : Int32)) x5 M) rfl rfl rfl kd_95 rfl wC_X9_sumOf wI_X9_sumOf wV_X9_sumOf wi_X9 wm_X9_171 hy_X9_sumOf (by decide) (Nat.le_of_ble_eq_true rfl) dX9_best_57) (fun r1 => ?_)
  refine g_aload_n (pc := 60) C dX9_best_60 rfl 0 rfl ?_
  refine gf_X9_63 (pc := 61) (u := 112) C kd_95 rfl dX9_best_61 ?_
  refine g_sipush (pc := 64) C dX9_best_64 ic_sipush_1024 ?_
  refine g_iload_n (pc := 67) C dX9_best_67 rfl 2 rfl ?_
  refine g_iconst (pc := 68) C dX9_best_68 ic_iconst_1 ?_
  refine g_iadd (pc := 69) C dX9_best_69 ?_
  refine g_imul (pc := 70) C dX9_best_70 ?_
  refine g_aload_n (pc := 71) C dX9_best_71 rfl 0 rfl ?_
  refine gf_X9_7 (pc := 72) (u := 96) C kd_95 rfl dX9_best_72 ?_
  refine g_iload_n (pc := 75) C dX9_best_75 rfl 1 rfl ?_
  refine g_bipush (pc := 76) C dX9_best_76 ic_bipush_31 ?_
  refine g_iadd (pc := 78) C dX9_best_78 ?_
  refine g_iald (pc := 79) C kd_96 dX9_best_79 ?_
  refine g_if_ne (pc := 80) (tgt := 87) C dX9_best_80 (by decide) ?_ ?_
  · refine g_iload (pc := 87) C dX9_best_87 5 rfl ?_
    exact g_X9_best_b89 C F a0 a1 a2 M k7 hk7 x4 x5 x5 ((1024 : Int32) * (a1 + (1 : Int32))) r1
  · refine g_iconst (pc := 83) C dX9_best_83 ic_iconst_0 ?_
    refine g_goto (pc := 84) (tgt := 89) C dX9_best_84 (by decide) ?_
    exact g_X9_best_b89 C F a0 a1 a2 M k7 hk7 x4 x5 (0 : Int32) ((1024 : Int32) * (a1 + (1 : Int32))) r1

set_option maxRecDepth 100000 in
set_option maxHeartbeats 4000000 in
theorem g_X9_best_h7_b {X : gX} (C : gC X cX9_best RX9 7 (some .int) 2 45) (F : Nat) (a0 : Int32) (a1 : Int32) (a2 : Int32) (M : gM) (k7 : Int32 → Int32 → Option Int32) (hk7 : ∀ (x4 : Int32) (x5 : Int32), G X (gQm X rvR (rMR M)) 7 M [(0, .ref (xad X 95)), (1, .int a0), (2, .int a1), (3, .int a2), (4, .int x4), (5, .int x5)] [] 7 (k7 x4 x5)) (x4 : Int32) (x5 : Int32) : G X (gQm X rvR (rMR M)) 7 M [(0, .ref (xad X 95)), (1, .int a0), (2, .int a1), (3, .int a2), (4, .int x4), (5, .int x5)] [] 7 (f_X9_best_h7_b F a0 a1 a2 M k7 x4 x5) := by
  unfold f_X9_best_h7_b
  refine g_iload (pc := 7) C dX9_best_7 5 rfl ?_
  refine g_sipush (pc := 9) C dX9_best_9 ic_sipush_1024 ?_
  refine g_icmp_ge (pc := 12) (tgt := 116) C dX9_best_12 (by decide) ?_ ?_
  · refine g_iload (pc := 116) C dX9_best_116 4 rfl ?_
    exact g_iret (pc := 118) C dX9_best_118 rfl rfl
  · refine g_aload_n (pc := 15) C dX9_best_15 rfl 0 rfl ?_
    refine gf_X9_60 (pc := 16) (u := 111) C kd_95 rfl dX9_best_16 ?_
    refine g_sipush (pc := 19) C dX9_best_19 ic_sipush_1024 ?_
    refine g_iload_n (pc := 22) C dX9_best_22 rfl 2 rfl ?_
    refine g_imul (pc := 23) C dX9_best_23 ?_
    refine g_iload (pc := 24) C dX9_best_24 5 rfl ?_
    refine g_iadd (pc := 26) C dX9_best_26 ?_
    refine g_zald (pc := 27) C kd_111 dX9_best_27 ?_
    refine g_if_eq (pc := 28) (tgt := 110) C dX9_best_28 (by decide) ?_ ?_
    · refine g_iinc (pc := 110) (j := 5) (lv' := [(5, .int (x5 + (1 : Int32))), (0, .ref (xad X 95)), (1, .int a0), (2, .int a1), (3, .int a2), (4, .int x4)]) C dX9_best_110 rfl (ii_1 _) (by decide) rfl ?_
      refine g_goto (pc := 113) (tgt := 7) C dX9_best_113 (by decide) ?_
      refine g_sub (lv' := [(0, .ref (xad X 95)), (1, .int a0), (2, .int a1), (3, .int a2), (4, .int x4), (5, .int (x5 + (1 : Int32)))]) [1, 2, 3, 4, 5, 0] rfl ?_
      exact hk7 x4 (x5 + (1 : Int32))
    · refine g_aload_n (pc := 31) C dX9_best_31 rfl 0 rfl ?_
      refine gf_X9_7 (pc := 32) (u := 96) C kd_95 rfl dX9_best_32 ?_
      refine g_iload_n (pc := 35) C dX9_best_35 rfl 1 rfl ?_
      refine g_bipush (pc := 36) C dX9_best_36 ic_bipush_31 ?_
      refine g_iadd (pc := 38) C dX9_best_38 ?_
      refine g_iald (pc := 39) C kd_96 dX9_best_39 ?_
      refine g_if_eq (pc := 40) (tgt := 50) C dX9_best_40 (by decide) ?_ ?_
      · exact g_X9_best_b50 C F a0 a1 a2 M k7 hk7 x4 x5
      · refine g_iload (pc := 43) C dX9_best_43 5 rfl ?_
        refine g_iload_n (pc := 45) C dX9_best_45 rfl 3 rfl ?_
        refine g_iand (pc := 46) C dX9_best_46 ?_
        refine g_if_ne (pc := 47) (tgt := 110) C dX9_best_47 (by decide) ?_ ?_
        · refine g_iinc (pc := 110) (j := 5) (lv' := [(5, .int (x5 + (1 : Int32))), (0, .ref (xad X 95)), (1, .int a0), (2, .int a1), (3, .int a2), (4, .int x4)]) C dX9_best_110 rfl (ii_1 _) (by decide) rfl ?_
          refine g_goto (pc := 113) (tgt := 7) C dX9_best_113 (by decide) ?_
          refine g_sub (lv' := [(0, .ref (xad X 95)), (1, .int a0), (2, .int a1), (3, .int a2), (4, .int x4), (5, .int (x5 + (1 : Int32)))]) [1, 2, 3, 4, 5, 0] rfl ?_
          exact hk7 x4 (x5 + (1 : Int32))
        · exact g_X9_best_b50 C F a0 a1 a2 M k7 hk7 x4 x5

theorem g_X9_best_h7 {X : gX} (C : gC X cX9_best RX9 7 (some .int) 2 45) (F : Nat) (a0 : Int32) (a1 : Int32) (a2 : Int32) (M : gM) : ∀ (n : Nat) (x4 : Int32) (x5 : Int32), G X (gQm X rvR (rMR M)) 7 M [(0, .ref (xad X 95)), (1, .int a0), (2, .int a1), (3, .int a2), (4, .int x4), (5, .int x5)] [] 7 (f_X9_best_h7 F a0 a1 a2 M n x4 x5) := by
  intro n
  induction n with
  | zero =>
    intro x4 x5 r hr
    have hr2 : (none : Option Int32) = some r := hr
    cases hr2
  | succ n ih =>
    intro x4 x5
    exact g_X9_best_h7_b C F a0 a1 a2 M _ ih x4 x5
set_option maxRecDepth 100000 in
set_option maxHeartbeats 4000000 in
theorem c_X9_best (F : Nat) (a0 : Int32) (a1 : Int32) (a2 : Int32)  (M : gM) : gCt yX9_best cX9_best 7 (some .int) 2 45 (fun ad K V => [.ref (ad 95), .int a0, .int a1, .int a2]) rvR (rMR M) M (f_X9_best F a0 a1 a2 M) := by
  refine g_met (y := yX9_best) (by decide +kernel) (fun _ _ _ => Nat.le_of_ble_eq_true rfl) (fun X C => ?_)
  show G X (gQm X rvR (rMR M)) 7 M [(0, .ref (xad X 95)), (1, .int a0), (2, .int a1), (3, .int a2)] [] 0 (f_X9_best F a0 a1 a2 M)
  unfold f_X9_best
  refine g_ldc (pc := 0) C wk_X9_209 dX9_best_0 ?_
  refine g_istore (pc := 2) (lv' := [(4, .int (1000000 : Int32)), (0, .ref (xad X 95)), (1, .int a0), (2, .int a1), (3, .int a2)]) C dX9_best_2 (by decide) rfl ?_
  refine g_iconst (pc := 4) C dX9_best_4 ic_iconst_0 ?_
  refine g_istore (pc := 5) (lv' := [(5, .int (0 : Int32)), (4, .int (1000000 : Int32)), (0, .ref (xad X 95)), (1, .int a0), (2, .int a1), (3, .int a2)]) C dX9_best_5 (by decide) rfl ?_
  refine g_sub (lv' := [(0, .ref (xad X 95)), (1, .int a0), (2, .int a1), (3, .int a2), (4, .int (1000000 : Int32)), (5, .int (0 : Int32))]) [2, 3, 4, 5, 1, 0] rfl ?_
  exact g_X9_best_h7 C F a0 a1 a2 M F (1000000 : Int32) (0 : Int32)

/-! X9_canRest -/
set_option maxRecDepth 100000 in
set_option maxHeartbeats 4000000 in
theorem g_X9_canRest_h37_b {X : gX} (C : gC X cX9_canRest RX9 5 (some .boolean) 4 96) (F : Nat) (a0 : Int32) (a1 : Int32) (a2 : Int32) (k37 : Int32 → gM → Option (Int32 × gM)) (hk37 : ∀ (x4 : Int32) (M : gM), G X (gQm X rvW rMW) 5 M [(0, .ref (xad X 95)), (2, .int a1), (3, .int a2), (4, .int x4)] [] 37 (k37 x4 M)) (x4 : Int32) (M : gM) : G X (gQm X rvW rMW) 5 M [(0, .ref (xad X 95)), (2, .int a1), (3, .int a2), (4, .int x4)] [] 37 (f_X9_canRest_h37_b F a0 a1 a2 k37 x4 M) := by
  unfold f_X9_canRest_h37_b
  refine g_iload (pc := 37) C dX9_canRest_37 3 rfl ?_
  refine g_aload_n (pc := 39) C dX9_canRest_39 rfl 0 rfl ?_
  refine gf_X9_47 (pc := 40) (u := 108) C kd_95 rfl dX9_canRest_40 ?_
  refine g_iconst (pc := 43) C dX9_canRest_43 ic_iconst_1 ?_
  refine g_iald (pc := 44) C kd_108 dX9_canRest_44 ?_
  refine g_icmp_ge (pc := 45) (tgt := 72) C dX9_canRest_45 (by decide) ?_ ?_
  · refine g_aload_n (pc := 72) C dX9_canRest_72 rfl 0 rfl ?_
    refine gf_X9_69 (pc := 73) (u := 114) C kd_95 rfl dX9_canRest_73 ?_
    refine g_iload_n (pc := 76) C dX9_canRest_76 rfl 2 rfl ?_
    refine g_zald (pc := 77) C kd_114 dX9_canRest_77 ?_
    exact g_zret (pc := 78) C dX9_canRest_78 rfl rfl
  · refine g_aload_n (pc := 48) C dX9_canRest_48 rfl 0 rfl ?_
    refine gf_X9_38 (pc := 49) (u := 105) C kd_95 rfl dX9_canRest_49 ?_
    refine g_iload (pc := 52) C dX9_canRest_52 3 rfl ?_
    refine g_iald (pc := 54) C kd_105 dX9_canRest_54 ?_
    refine g_iload_n (pc := 55) C dX9_canRest_55 rfl 1 rfl ?_
    refine g_icmp_ne (pc := 56) (tgt := 66) C dX9_canRest_56 (by decide) ?_ ?_
    · refine g_iinc (pc := 66) (j := 3) (lv' := [(4, .int (x4 + (1 : Int32))), (0, .ref (xad X 95)), (2, .int a1), (3, .int a2)]) C dX9_canRest_66 rfl (ii_1 _) (by decide) rfl ?_
      refine g_goto (pc := 69) (tgt := 37) C dX9_canRest_69 (by decide) ?_
      refine g_sub (lv' := [(0, .ref (xad X 95)), (2, .int a1), (3, .int a2), (4, .int (x4 + (1 : Int32)))]) [1, 2, 3, 0] rfl ?_
      exact hk37 (x4 + (1 : Int32)) M
    · refine g_aload_n (pc := 59) C dX9_canRest_59 rfl 0 rfl ?_
      refine g_iconst (pc := 60) C dX9_canRest_60 ic_iconst_0 ?_
      refine g_iload (pc := 61) C dX9_canRest_61 3 rfl ?_
      refine g_callV (pc := 63) C (g_runV (stk := []) C (c_X9_addScene F (0 : Int32) x4 M) rfl rfl rfl kd_95 rfl wC_X9_addScene wI_X9_addScene wV_X9_addScene wi_X9 wm_X9_205 hy_X9_addScene (by decide) (Nat.le_of_ble_eq_true rfl) dX9_canRest_63) (fun r1 => ?_)
      refine g_iinc (pc := 66) (j := 3) (lv' := [(4, .int (x4 + (1 : Int32))), (0, .ref (xad X 95)), (2, .int a1), (3, .int a2)]) C dX9_canRest_66 rfl (ii_1 _) (by decide) rfl ?_
      refine g_goto (pc := 69) (tgt := 37) C dX9_canRest_69 (by decide) ?_
      refine g_sub (lv' := [(0, .ref (xad X 95)), (2, .int a1), (3, .int a2), (4, .int (x4 + (1 : Int32)))]) [1, 2, 3, 0] rfl ?_
      exact hk37 (x4 + (1 : Int32)) r1

theorem g_X9_canRest_h37 {X : gX} (C : gC X cX9_canRest RX9 5 (some .boolean) 4 96) (F : Nat) (a0 : Int32) (a1 : Int32) (a2 : Int32) : ∀ (n : Nat) (x4 : Int32) (M : gM), G X (gQm X rvW rMW) 5 M [(0, .ref (xad X 95)), (2, .int a1), (3, .int a2), (4, .int x4)] [] 37 (f_X9_canRest_h37 F a0 a1 a2 n x4 M) := by
  intro n
  induction n with
  | zero =>
    intro x4 M r hr
    have hr2 : (none : Option (Int32 × gM)) = some r := hr
    cases hr2
  | succ n ih =>
    intro x4 M
    exact g_X9_canRest_h37_b C F a0 a1 a2 _ ih x4 M
set_option maxRecDepth 100000 in
set_option maxHeartbeats 4000000 in
theorem g_X9_canRest_h3_b {X : gX} (C : gC X cX9_canRest RX9 5 (some .boolean) 4 96) (F : Nat) (a0 : Int32) (a1 : Int32) (a2 : Int32) (k3 : Int32 → gM → Option (Int32 × gM)) (hk3 : ∀ (x4 : Int32) (M : gM), G X (gQm X rvW rMW) 5 M [(0, .ref (xad X 95)), (1, .int a0), (2, .int a1), (3, .int a2), (4, .int x4)] [] 3 (k3 x4 M)) (x4 : Int32) (M : gM) : G X (gQm X rvW rMW) 5 M [(0, .ref (xad X 95)), (1, .int a0), (2, .int a1), (3, .int a2), (4, .int x4)] [] 3 (f_X9_canRest_h3_b F a0 a1 a2 k3 x4 M) := by
  unfold f_X9_canRest_h3_b
  refine g_iload (pc := 3) C dX9_canRest_3 4 rfl ?_
  refine g_sipush (pc := 5) C dX9_canRest_5 ic_sipush_1024 ?_
  refine g_icmp_ge (pc := 8) (tgt := 34) C dX9_canRest_8 (by decide) ?_ ?_
  · refine g_iload_n (pc := 34) C dX9_canRest_34 rfl 1 rfl ?_
    refine g_istore (pc := 35) (lv' := [(4, .int a0), (0, .ref (xad X 95)), (1, .int a0), (2, .int a1), (3, .int a2)]) C dX9_canRest_35 (by decide) rfl ?_
    refine g_sub (lv' := [(0, .ref (xad X 95)), (2, .int a1), (3, .int a2), (4, .int a0)]) [1, 3, 4, 0] rfl ?_
    exact g_X9_canRest_h37 C F a0 a1 a2 F a0 M
  · refine g_aload_n (pc := 11) C dX9_canRest_11 rfl 0 rfl ?_
    refine gf_X9_69 (pc := 12) (u := 114) C kd_95 rfl dX9_canRest_12 ?_
    refine g_iload (pc := 15) C dX9_canRest_15 4 rfl ?_
    refine g_iload (pc := 17) C dX9_canRest_17 4 rfl ?_
    refine g_if_ne (pc := 19) (tgt := 26) C dX9_canRest_19 (by decide) ?_ ?_
    · refine g_iconst (pc := 26) C dX9_canRest_26 ic_iconst_0 ?_
      refine g_zast (pc := 27) C kd_114 dX9_canRest_27 ?_
      refine g_ltM (fun M2 => ?_)
      refine g_iinc (pc := 28) (j := 4) (lv' := [(4, .int (x4 + (1 : Int32))), (0, .ref (xad X 95)), (1, .int a0), (2, .int a1), (3, .int a2)]) C dX9_canRest_28 rfl (ii_1 _) (by decide) rfl ?_
      refine g_goto (pc := 31) (tgt := 3) C dX9_canRest_31 (by decide) ?_
      refine g_sub (lv' := [(0, .ref (xad X 95)), (1, .int a0), (2, .int a1), (3, .int a2), (4, .int (x4 + (1 : Int32)))]) [1, 2, 3, 4, 0] rfl ?_
      exact hk3 (x4 + (1 : Int32)) M2
    · refine g_iconst (pc := 22) C dX9_canRest_22 ic_iconst_1 ?_
      refine g_goto (pc := 23) (tgt := 27) C dX9_canRest_23 (by decide) ?_
      refine g_zast (pc := 27) C kd_114 dX9_canRest_27 ?_
      refine g_ltM (fun M3 => ?_)
      refine g_iinc (pc := 28) (j := 4) (lv' := [(4, .int (x4 + (1 : Int32))), (0, .ref (xad X 95)), (1, .int a0), (2, .int a1), (3, .int a2)]) C dX9_canRest_28 rfl (ii_1 _) (by decide) rfl ?_
      refine g_goto (pc := 31) (tgt := 3) C dX9_canRest_31 (by decide) ?_
      refine g_sub (lv' := [(0, .ref (xad X 95)), (1, .int a0), (2, .int a1), (3, .int a2), (4, .int (x4 + (1 : Int32)))]) [1, 2, 3, 4, 0] rfl ?_
      exact hk3 (x4 + (1 : Int32)) M3

theorem g_X9_canRest_h3 {X : gX} (C : gC X cX9_canRest RX9 5 (some .boolean) 4 96) (F : Nat) (a0 : Int32) (a1 : Int32) (a2 : Int32) : ∀ (n : Nat) (x4 : Int32) (M : gM), G X (gQm X rvW rMW) 5 M [(0, .ref (xad X 95)), (1, .int a0), (2, .int a1), (3, .int a2), (4, .int x4)] [] 3 (f_X9_canRest_h3 F a0 a1 a2 n x4 M) := by
  intro n
  induction n with
  | zero =>
    intro x4 M r hr
    have hr2 : (none : Option (Int32 × gM)) = some r := hr
    cases hr2
  | succ n ih =>
    intro x4 M
    exact g_X9_canRest_h3_b C F a0 a1 a2 _ ih x4 M
set_option maxRecDepth 100000 in
set_option maxHeartbeats 4000000 in
theorem c_X9_canRest (F : Nat) (a0 : Int32) (a1 : Int32) (a2 : Int32)  (M : gM) : gCt yX9_canRest cX9_canRest 5 (some .boolean) 4 96 (fun ad K V => [.ref (ad 95), .int a0, .int a1, .int a2]) rvW rMW M (f_X9_canRest F a0 a1 a2 M) := by
  refine g_met (y := yX9_canRest) (by decide +kernel) (fun _ _ _ => Nat.le_of_ble_eq_true rfl) (fun X C => ?_)
  show G X (gQm X rvW rMW) 5 M [(0, .ref (xad X 95)), (1, .int a0), (2, .int a1), (3, .int a2)] [] 0 (f_X9_canRest F a0 a1 a2 M)
  unfold f_X9_canRest
  refine g_iconst (pc := 0) C dX9_canRest_0 ic_iconst_0 ?_
  refine g_istore (pc := 1) (lv' := [(4, .int (0 : Int32)), (0, .ref (xad X 95)), (1, .int a0), (2, .int a1), (3, .int a2)]) C dX9_canRest_1 (by decide) rfl ?_
  refine g_sub (lv' := [(0, .ref (xad X 95)), (1, .int a0), (2, .int a1), (3, .int a2), (4, .int (0 : Int32))]) [1, 2, 3, 4, 0] rfl ?_
  exact g_X9_canRest_h3 C F a0 a1 a2 F (0 : Int32) M

/-! X9_isScene -/
set_option maxRecDepth 100000 in
set_option maxHeartbeats 4000000 in
theorem c_X9_isScene (a0 : Int32)  (M : gM) : gCt yX9_isScene cX9_isScene 2 (some .boolean) 1 25 (fun ad K V => [.ref (ad 95), .int a0]) rvR (rMR M) M (f_X9_isScene a0 M) := by
  refine g_met (y := yX9_isScene) (by decide +kernel) (fun _ _ _ => Nat.le_of_ble_eq_true rfl) (fun X C => ?_)
  show G X (gQm X rvR (rMR M)) 2 M [(0, .ref (xad X 95)), (1, .int a0)] [] 0 (f_X9_isScene a0 M)
  unfold f_X9_isScene
  refine g_iload_n (pc := 0) C dX9_isScene_0 rfl 1 rfl ?_
  refine g_i2l (pc := 1) C dX9_isScene_1 ?_
  refine g_lconst (pc := 2) (v := 0) C dX9_isScene_2 rfl ?_
  refine g_aload_n (pc := 3) C dX9_isScene_3 rfl 0 rfl ?_
  refine gf_X9_47 (pc := 4) (u := 108) C kd_95 rfl dX9_isScene_4 ?_
  refine g_iconst (pc := 7) C dX9_isScene_7 ic_iconst_1 ?_
  refine g_iald (pc := 8) C kd_108 dX9_isScene_8 ?_
  refine g_iconst (pc := 9) C dX9_isScene_9 ic_iconst_1 ?_
  refine g_isub (pc := 10) C dX9_isScene_10 ?_
  refine g_i2l (pc := 11) C dX9_isScene_11 ?_
  refine g_callR (pc := 12) C (g_runS (stk := []) C (c_X9_in a0.toInt64 (0 : Int64) (((M 108 (1 : Int32).toNatClampNeg) - (1 : Int32)).toInt64) M) rfl rfl rfl wC_X9_in wS_X9_in wi_X9 wm_X9_89 hy_X9_in (by decide) (Nat.le_of_ble_eq_true rfl) dX9_isScene_12) (fun r1 => ?_)
  exact g_zret (pc := 15) C dX9_isScene_15 rfl rfl

/-! X9_cheapest -/
set_option maxRecDepth 100000 in
set_option maxHeartbeats 4000000 in
theorem g_X9_cheapest_h29_b {X : gX} (C : gC X cX9_cheapest RX9 6 (some .int) 3 72) (F : Nat) (a0 : Int32) (a1 : Int32) (M : gM) (k29 : Int32 → Int32 → Option Int32) (hk29 : ∀ (x3 : Int32) (x4 : Int32), G X (gQm X rvR (rMR M)) 6 M [(0, .ref (xad X 95)), (1, .int a0), (2, .int a1), (3, .int x3), (4, .int x4)] [] 29 (k29 x3 x4)) (x3 : Int32) (x4 : Int32) : G X (gQm X rvR (rMR M)) 6 M [(0, .ref (xad X 95)), (1, .int a0), (2, .int a1), (3, .int x3), (4, .int x4)] [] 29 (f_X9_cheapest_h29_b F a0 a1 M k29 x3 x4) := by
  unfold f_X9_cheapest_h29_b
  refine g_iload (pc := 29) C dX9_cheapest_29 4 rfl ?_
  refine g_aload_n (pc := 31) C dX9_cheapest_31 rfl 0 rfl ?_
  refine gf_X9_165 (pc := 32) C kd_95 dX9_cheapest_32 ?_
  refine g_icmp_ge (pc := 35) (tgt := 103) C dX9_cheapest_35 (by decide) ?_ ?_
  · refine g_iload_n (pc := 103) C dX9_cheapest_103 rfl 3 rfl ?_
    refine g_if_ge (pc := 104) (tgt := 111) C dX9_cheapest_104 (by decide) ?_ ?_
    · refine g_iload_n (pc := 111) C dX9_cheapest_111 rfl 2 rfl ?_
      refine g_if_ne (pc := 112) (tgt := 124) C dX9_cheapest_112 (by decide) ?_ ?_
      · refine g_aload_n (pc := 124) C dX9_cheapest_124 rfl 0 rfl ?_
        refine g_bipush (pc := 125) C dX9_cheapest_125 ic_bipush_10 ?_
        refine g_aload_n (pc := 127) C dX9_cheapest_127 rfl 0 rfl ?_
        refine gf_X9_57 (pc := 128) (u := 110) C kd_95 rfl dX9_cheapest_128 ?_
        refine g_iload_n (pc := 131) C dX9_cheapest_131 rfl 3 rfl ?_
        refine g_iald (pc := 132) C kd_110 dX9_cheapest_132 ?_
        refine g_callR (pc := 133) C (g_runV (stk := []) C (c_X9_sumOf F (10 : Int32) (M 110 x3.toNatClampNeg) M) rfl rfl rfl kd_95 rfl wC_X9_sumOf wI_X9_sumOf wV_X9_sumOf wi_X9 wm_X9_171 hy_X9_sumOf (by decide) (Nat.le_of_ble_eq_true rfl) dX9_cheapest_133) (fun r3 => ?_)
        exact g_iret (pc := 136) C dX9_cheapest_136 rfl rfl
      · refine g_aload_n (pc := 115) C dX9_cheapest_115 rfl 0 rfl ?_
        refine gf_X9_57 (pc := 116) (u := 110) C kd_95 rfl dX9_cheapest_116 ?_
        refine g_iload_n (pc := 119) C dX9_cheapest_119 rfl 3 rfl ?_
        refine g_iald (pc := 120) C kd_110 dX9_cheapest_120 ?_
        refine g_goto (pc := 121) (tgt := 136) C dX9_cheapest_121 (by decide) ?_
        exact g_iret (pc := 136) C dX9_cheapest_136 rfl rfl
    · refine g_iconst (pc := 107) C dX9_cheapest_107 ic_iconst_m1 ?_
      refine g_goto (pc := 108) (tgt := 136) C dX9_cheapest_108 (by decide) ?_
      exact g_iret (pc := 136) C dX9_cheapest_136 rfl rfl
  · refine g_aload_n (pc := 38) C dX9_cheapest_38 rfl 0 rfl ?_
    refine g_iconst (pc := 39) C dX9_cheapest_39 ic_iconst_0 ?_
    refine g_aload_n (pc := 40) C dX9_cheapest_40 rfl 0 rfl ?_
    refine gf_X9_57 (pc := 41) (u := 110) C kd_95 rfl dX9_cheapest_41 ?_
    refine g_iload (pc := 44) C dX9_cheapest_44 4 rfl ?_
    refine g_iald (pc := 46) C kd_110 dX9_cheapest_46 ?_
    refine g_iload_n (pc := 47) C dX9_cheapest_47 rfl 1 rfl ?_
    refine g_callR (pc := 48) C (g_runV (stk := []) C (c_X9_isFor F (0 : Int32) (M 110 x4.toNatClampNeg) a0 M) rfl rfl rfl kd_95 rfl wC_X9_isFor wI_X9_isFor wV_X9_isFor wi_X9 wm_X9_201 hy_X9_isFor (by decide) (Nat.le_of_ble_eq_true rfl) dX9_cheapest_48) (fun r4 => ?_)
    refine g_istore (pc := 51) (lv' := [(5, .int r4), (0, .ref (xad X 95)), (1, .int a0), (2, .int a1), (3, .int x3), (4, .int x4)]) C dX9_cheapest_51 (by decide) rfl ?_
    refine g_iload (pc := 53) C dX9_cheapest_53 0 rfl ?_
    refine g_if_eq (pc := 55) (tgt := 95) C dX9_cheapest_55 (by decide) ?_ ?_
    · refine g_iload_n (pc := 95) C dX9_cheapest_95 rfl 4 rfl ?_
      refine g_istore_n (pc := 96) (lv' := [(3, .int x3), (5, .int r4), (0, .ref (xad X 95)), (1, .int a0), (2, .int a1), (4, .int x4)]) C dX9_cheapest_96 rfl (by decide) rfl ?_
      refine g_iinc (pc := 97) (j := 5) (lv' := [(4, .int (x4 + (1 : Int32))), (3, .int x3), (5, .int r4), (0, .ref (xad X 95)), (1, .int a0), (2, .int a1)]) C dX9_cheapest_97 rfl (ii_1 _) (by decide) rfl ?_
      refine g_goto (pc := 100) (tgt := 29) C dX9_cheapest_100 (by decide) ?_
      refine g_sub (lv' := [(0, .ref (xad X 95)), (1, .int a0), (2, .int a1), (3, .int x3), (4, .int (x4 + (1 : Int32)))]) [3, 4, 5, 1, 0] rfl ?_
      exact hk29 x3 (x4 + (1 : Int32))
    · refine g_iload_n (pc := 58) C dX9_cheapest_58 rfl 4 rfl ?_
      refine g_if_lt (pc := 59) (tgt := 90) C dX9_cheapest_59 (by decide) ?_ ?_
      · refine g_iload (pc := 90) C dX9_cheapest_90 5 rfl ?_
        refine g_goto (pc := 92) (tgt := 96) C dX9_cheapest_92 (by decide) ?_
        refine g_istore_n (pc := 96) (lv' := [(3, .int x4), (5, .int r4), (0, .ref (xad X 95)), (1, .int a0), (2, .int a1), (4, .int x4)]) C dX9_cheapest_96 rfl (by decide) rfl ?_
        refine g_iinc (pc := 97) (j := 5) (lv' := [(4, .int (x4 + (1 : Int32))), (3, .int x4), (5, .int r4), (0, .ref (xad X 95)), (1, .int a0), (2, .int a1)]) C dX9_cheapest_97 rfl (ii_1 _) (by decide) rfl ?_
        refine g_goto (pc := 100) (tgt := 29) C dX9_cheapest_100 (by decide) ?_
        refine g_sub (lv' := [(0, .ref (xad X 95)), (1, .int a0), (2, .int a1), (3, .int x4), (4, .int (x4 + (1 : Int32)))]) [3, 4, 5, 1, 0] rfl ?_
        exact hk29 x4 (x4 + (1 : Int32))
      · refine g_aload_n (pc := 62) C dX9_cheapest_62 rfl 1 rfl ?_
        refine g_bipush (pc := 63) C dX9_cheapest_63 ic_bipush_10 ?_
        refine g_aload_n (pc := 65) C dX9_cheapest_65 rfl 1 rfl ?_
        refine gf_X9_57 (pc := 66) (u := 110) C kd_95 rfl dX9_cheapest_66 ?_
        refine g_iload (pc := 69) C dX9_cheapest_69 5 rfl ?_
        refine g_iald (pc := 71) C kd_110 dX9_cheapest_71 ?_
        refine g_callR (pc := 72) C (g_runV (stk := []) C (c_X9_sumOf F (10 : Int32) (M 110 x4.toNatClampNeg) M) rfl rfl rfl kd_95 rfl wC_X9_sumOf wI_X9_sumOf wV_X9_sumOf wi_X9 wm_X9_171 hy_X9_sumOf (by decide) (Nat.le_of_ble_eq_true rfl) dX9_cheapest_72) (fun r5 => ?_)
        refine g_aload_n (pc := 75) C dX9_cheapest_75 rfl 1 rfl ?_
        refine g_bipush (pc := 76) C dX9_cheapest_76 ic_bipush_10 ?_
        refine g_aload_n (pc := 78) C dX9_cheapest_78 rfl 1 rfl ?_
        refine gf_X9_57 (pc := 79) (u := 110) C kd_95 rfl dX9_cheapest_79 ?_
        refine g_iload_n (pc := 82) C dX9_cheapest_82 rfl 4 rfl ?_
        refine g_iald (pc := 83) C kd_110 dX9_cheapest_83 ?_
        refine g_callR (pc := 84) C (g_runV (stk := [.int r5]) C (c_X9_sumOf F (10 : Int32) (M 110 x3.toNatClampNeg) M) rfl rfl rfl kd_95 rfl wC_X9_sumOf wI_X9_sumOf wV_X9_sumOf wi_X9 wm_X9_171 hy_X9_sumOf (by decide) (Nat.le_of_ble_eq_true rfl) dX9_cheapest_84) (fun r6 => ?_)
        refine g_icmp_ge (pc := 87) (tgt := 95) C dX9_cheapest_87 (by decide) ?_ ?_
        · refine g_iload_n (pc := 95) C dX9_cheapest_95 rfl 4 rfl ?_
          refine g_istore_n (pc := 96) (lv' := [(3, .int x3), (5, .int r4), (0, .ref (xad X 95)), (1, .int a0), (2, .int a1), (4, .int x4)]) C dX9_cheapest_96 rfl (by decide) rfl ?_
          refine g_iinc (pc := 97) (j := 5) (lv' := [(4, .int (x4 + (1 : Int32))), (3, .int x3), (5, .int r4), (0, .ref (xad X 95)), (1, .int a0), (2, .int a1)]) C dX9_cheapest_97 rfl (ii_1 _) (by decide) rfl ?_
          refine g_goto (pc := 100) (tgt := 29) C dX9_cheapest_100 (by decide) ?_
          refine g_sub (lv' := [(0, .ref (xad X 95)), (1, .int a0), (2, .int a1), (3, .int x3), (4, .int (x4 + (1 : Int32)))]) [3, 4, 5, 1, 0] rfl ?_
          exact hk29 x3 (x4 + (1 : Int32))
        · refine g_iload (pc := 90) C dX9_cheapest_90 5 rfl ?_
          refine g_goto (pc := 92) (tgt := 96) C dX9_cheapest_92 (by decide) ?_
          refine g_istore_n (pc := 96) (lv' := [(3, .int x4), (5, .int r4), (0, .ref (xad X 95)), (1, .int a0), (2, .int a1), (4, .int x4)]) C dX9_cheapest_96 rfl (by decide) rfl ?_
          refine g_iinc (pc := 97) (j := 5) (lv' := [(4, .int (x4 + (1 : Int32))), (3, .int x4), (5, .int r4), (0, .ref (xad X 95)), (1, .int a0), (2, .int a1)]) C dX9_cheapest_97 rfl (ii_1 _) (by decide) rfl ?_
          refine g_goto (pc := 100) (tgt := 29) C dX9_cheapest_100 (by decide) ?_
          refine g_sub (lv' := [(0, .ref (xad X 95)), (1, .int a0), (2, .int a1), (3, .int x4), (4, .int (x4 + (1 : Int32)))]) [3, 4, 5, 1, 0] rfl ?_
          exact hk29 x4 (x4 + (1 : Int32))

theorem g_X9_cheapest_h29 {X : gX} (C : gC X cX9_cheapest RX9 6 (some .int) 3 72) (F : Nat) (a0 : Int32) (a1 : Int32) (M : gM) : ∀ (n : Nat) (x3 : Int32) (x4 : Int32), G X (gQm X rvR (rMR M)) 6 M [(0, .ref (xad X 95)), (1, .int a0), (2, .int a1), (3, .int x3), (4, .int x4)] [] 29 (f_X9_cheapest_h29 F a0 a1 M n x3 x4) := by
  intro n
  induction n with
  | zero =>
    intro x3 x4 r hr
    have hr2 : (none : Option Int32) = some r := hr
    cases hr2
  | succ n ih =>
    intro x3 x4
    exact g_X9_cheapest_h29_b C F a0 a1 M _ ih x3 x4
set_option maxRecDepth 100000 in
set_option maxHeartbeats 4000000 in
theorem c_X9_cheapest (F : Nat) (a0 : Int32) (a1 : Int32)  (M : gM) : gCt yX9_cheapest cX9_cheapest 6 (some .int) 3 72 (fun ad K V => [.ref (ad 95), .int a0, .int a1]) rvR (rMR M) M (f_X9_cheapest F a0 a1 M) := by
  refine g_met (y := yX9_cheapest) (by decide +kernel) (fun _ _ _ => Nat.le_of_ble_eq_true rfl) (fun X C => ?_)
  show G X (gQm X rvR (rMR M)) 6 M [(0, .ref (xad X 95)), (1, .int a0), (2, .int a1)] [] 0 (f_X9_cheapest F a0 a1 M)
  unfold f_X9_cheapest
  refine g_aload_n (pc := 0) C dX9_cheapest_0 rfl 0 rfl ?_
  refine g_iload_n (pc := 1) C dX9_cheapest_1 rfl 1 rfl ?_
  refine g_callR (pc := 2) C (g_runV (stk := []) C (c_X9_isScene a0 M) rfl rfl rfl kd_95 rfl wC_X9_isScene wI_X9_isScene wV_X9_isScene wi_X9 wm_X9_189 hy_X9_isScene (by decide) (Nat.le_of_ble_eq_true rfl) dX9_cheapest_2) (fun r1 => ?_)
  refine g_if_ne (pc := 5) (tgt := 11) C dX9_cheapest_5 (by decide) ?_ ?_
  · refine g_iload_n (pc := 11) C dX9_cheapest_11 rfl 2 rfl ?_
    refine g_i2l (pc := 12) C dX9_cheapest_12 ?_
    refine g_lconst (pc := 13) (v := 0) C dX9_cheapest_13 rfl ?_
    refine g_lconst (pc := 14) (v := 1) C dX9_cheapest_14 rfl ?_
    refine g_callR (pc := 15) C (g_runS (stk := []) C (c_X9_in a1.toInt64 (0 : Int64) (1 : Int64) M) rfl rfl rfl wC_X9_in wS_X9_in wi_X9 wm_X9_89 hy_X9_in (by decide) (Nat.le_of_ble_eq_true rfl) dX9_cheapest_15) (fun r2 => ?_)
    refine g_if_ne (pc := 18) (tgt := 24) C dX9_cheapest_18 (by decide) ?_ ?_
    · refine g_iconst (pc := 24) C dX9_cheapest_24 ic_iconst_m1 ?_
      refine g_istore_n (pc := 25) (lv' := [(3, .int (-1 : Int32)), (0, .ref (xad X 95)), (1, .int a0), (2, .int a1)]) C dX9_cheapest_25 rfl (by decide) rfl ?_
      refine g_iconst (pc := 26) C dX9_cheapest_26 ic_iconst_0 ?_
      refine g_istore (pc := 27) (lv' := [(4, .int (0 : Int32)), (3, .int (-1 : Int32)), (0, .ref (xad X 95)), (1, .int a0), (2, .int a1)]) C dX9_cheapest_27 (by decide) rfl ?_
      refine g_sub (lv' := [(0, .ref (xad X 95)), (1, .int a0), (2, .int a1), (3, .int (-1 : Int32)), (4, .int (0 : Int32))]) [2, 3, 4, 1, 0] rfl ?_
      exact g_X9_cheapest_h29 C F a0 a1 M F (-1 : Int32) (0 : Int32)
    · refine g_ldc (pc := 21) C wk_X9_93 dX9_cheapest_21 ?_
      exact g_iret (pc := 23) C dX9_cheapest_23 rfl rfl
  · refine g_ldc (pc := 8) C wk_X9_188 dX9_cheapest_8 ?_
    exact g_iret (pc := 10) C dX9_cheapest_10 rfl rfl

/-! X9_ones -/
set_option maxRecDepth 100000 in
set_option maxHeartbeats 4000000 in
theorem g_X9_ones_h4_b {X : gX} (C : gC X cX9_ones RX9 3 (some .int) 0 0) (F : Nat) (a0 : Int32) (M : gM) (k4 : Int32 → Int32 → Option Int32) (hk4 : ∀ (x1 : Int32) (x2 : Int32), G X (gQm X rvR (rMR M)) 3 M [(0, .int a0), (1, .int x1), (2, .int x2)] [] 4 (k4 x1 x2)) (x1 : Int32) (x2 : Int32) : G X (gQm X rvR (rMR M)) 3 M [(0, .int a0), (1, .int x1), (2, .int x2)] [] 4 (f_X9_ones_h4_b F a0 M k4 x1 x2) := by
  unfold f_X9_ones_h4_b
  refine g_iload_n (pc := 4) C dX9_ones_4 rfl 2 rfl ?_
  refine g_bipush (pc := 5) C dX9_ones_5 ic_bipush_28 ?_
  refine g_icmp_ge (pc := 7) (tgt := 24) C dX9_ones_7 (by decide) ?_ ?_
  · refine g_iload_n (pc := 24) C dX9_ones_24 rfl 1 rfl ?_
    exact g_iret (pc := 25) C dX9_ones_25 rfl rfl
  · refine g_iload_n (pc := 10) C dX9_ones_10 rfl 1 rfl ?_
    refine g_iload_n (pc := 11) C dX9_ones_11 rfl 0 rfl ?_
    refine g_iload_n (pc := 12) C dX9_ones_12 rfl 2 rfl ?_
    refine g_ishr (pc := 13) C dX9_ones_13 ?_
    refine g_iconst (pc := 14) C dX9_ones_14 ic_iconst_1 ?_
    refine g_iand (pc := 15) C dX9_ones_15 ?_
    refine g_iadd (pc := 16) C dX9_ones_16 ?_
    refine g_lt (fun v1 => ?_)
    refine g_istore_n (pc := 17) (lv' := [(1, .int v1), (0, .int a0), (2, .int x2)]) C dX9_ones_17 rfl (by decide) rfl ?_
    refine g_iinc (pc := 18) (j := 2) (lv' := [(2, .int (x2 + (1 : Int32))), (1, .int v1), (0, .int a0)]) C dX9_ones_18 rfl (ii_1 _) (by decide) rfl ?_
    refine g_goto (pc := 21) (tgt := 4) C dX9_ones_21 (by decide) ?_
    refine g_sub (lv' := [(0, .int a0), (1, .int v1), (2, .int (x2 + (1 : Int32)))]) [2, 1, 0] rfl ?_
    exact hk4 v1 (x2 + (1 : Int32))

theorem g_X9_ones_h4 {X : gX} (C : gC X cX9_ones RX9 3 (some .int) 0 0) (F : Nat) (a0 : Int32) (M : gM) : ∀ (n : Nat) (x1 : Int32) (x2 : Int32), G X (gQm X rvR (rMR M)) 3 M [(0, .int a0), (1, .int x1), (2, .int x2)] [] 4 (f_X9_ones_h4 F a0 M n x1 x2) := by
  intro n
  induction n with
  | zero =>
    intro x1 x2 r hr
    have hr2 : (none : Option Int32) = some r := hr
    cases hr2
  | succ n ih =>
    intro x1 x2
    exact g_X9_ones_h4_b C F a0 M _ ih x1 x2
set_option maxRecDepth 100000 in
set_option maxHeartbeats 4000000 in
theorem c_X9_ones (F : Nat) (a0 : Int32)  (M : gM) : gCt yX9_ones cX9_ones 3 (some .int) 0 0 (fun ad K V => [.int a0]) rvR (rMR M) M (f_X9_ones F a0 M) := by
  refine g_met (y := yX9_ones) (by decide +kernel) (fun _ _ _ => Nat.le_of_ble_eq_true rfl) (fun X C => ?_)
  show G X (gQm X rvR (rMR M)) 3 M [(0, .int a0)] [] 0 (f_X9_ones F a0 M)
  unfold f_X9_ones
  refine g_iconst (pc := 0) C dX9_ones_0 ic_iconst_0 ?_
  refine g_istore_n (pc := 1) (lv' := [(1, .int (0 : Int32)), (0, .int a0)]) C dX9_ones_1 rfl (by decide) rfl ?_
  refine g_iconst (pc := 2) C dX9_ones_2 ic_iconst_0 ?_
  refine g_istore_n (pc := 3) (lv' := [(2, .int (0 : Int32)), (1, .int (0 : Int32)), (0, .int a0)]) C dX9_ones_3 rfl (by decide) rfl ?_
  refine g_sub (lv' := [(0, .int a0), (1, .int (0 : Int32)), (2, .int (0 : Int32))]) [2, 1, 0] rfl ?_
  exact g_X9_ones_h4 C F a0 M F (0 : Int32) (0 : Int32)

/-! X9_clashMany -/
set_option maxRecDepth 100000 in
set_option maxHeartbeats 4000000 in
theorem g_X9_clashMany_h4_b {X : gX} (C : gC X cX9_clashMany RX9 3 (some .int) 1 22) (F : Nat) (M : gM) (k4 : Int32 → Int32 → Option Int32) (hk4 : ∀ (x1 : Int32) (x2 : Int32), G X (gQm X rvR (rMR M)) 3 M [(0, .ref (xad X 95)), (1, .int x1), (2, .int x2)] [] 4 (k4 x1 x2)) (x1 : Int32) (x2 : Int32) : G X (gQm X rvR (rMR M)) 3 M [(0, .ref (xad X 95)), (1, .int x1), (2, .int x2)] [] 4 (f_X9_clashMany_h4_b F M k4 x1 x2) := by
  unfold f_X9_clashMany_h4_b
  refine g_iload_n (pc := 4) C dX9_clashMany_4 rfl 2 rfl ?_
  refine g_aload_n (pc := 5) C dX9_clashMany_5 rfl 0 rfl ?_
  refine gf_X9_47 (pc := 6) (u := 108) C kd_95 rfl dX9_clashMany_6 ?_
  refine g_iconst (pc := 9) C dX9_clashMany_9 ic_iconst_0 ?_
  refine g_iald (pc := 10) C kd_108 dX9_clashMany_10 ?_
  refine g_icmp_ge (pc := 11) (tgt := 32) C dX9_clashMany_11 (by decide) ?_ ?_
  · refine g_iload_n (pc := 32) C dX9_clashMany_32 rfl 1 rfl ?_
    refine g_iconst (pc := 33) C dX9_clashMany_33 ic_iconst_2 ?_
    refine g_idivk (pc := 34) C dX9_clashMany_34 (by decide) ?_
    exact g_iret (pc := 35) C dX9_clashMany_35 rfl rfl
  · refine g_iload_n (pc := 14) C dX9_clashMany_14 rfl 1 rfl ?_
    refine g_aload_n (pc := 15) C dX9_clashMany_15 rfl 0 rfl ?_
    refine gf_X9_35 (pc := 16) (u := 104) C kd_95 rfl dX9_clashMany_16 ?_
    refine g_iload_n (pc := 19) C dX9_clashMany_19 rfl 2 rfl ?_
    refine g_iald (pc := 20) C kd_104 dX9_clashMany_20 ?_
    refine g_callR (pc := 21) C (g_runS (stk := [.int x1]) C (c_X9_ones F (M 104 x2.toNatClampNeg) M) rfl rfl rfl wC_X9_ones wS_X9_ones wi_X9 wm_X9_181 hy_X9_ones (by decide) (Nat.le_of_ble_eq_true rfl) dX9_clashMany_21) (fun r1 => ?_)
    refine g_iadd (pc := 24) C dX9_clashMany_24 ?_
    refine g_lt (fun v2 => ?_)
    refine g_istore_n (pc := 25) (lv' := [(1, .int v2), (0, .ref (xad X 95)), (2, .int x2)]) C dX9_clashMany_25 rfl (by decide) rfl ?_
    refine g_iinc (pc := 26) (j := 2) (lv' := [(2, .int (x2 + (1 : Int32))), (1, .int v2), (0, .ref (xad X 95))]) C dX9_clashMany_26 rfl (ii_1 _) (by decide) rfl ?_
    refine g_goto (pc := 29) (tgt := 4) C dX9_clashMany_29 (by decide) ?_
    refine g_sub (lv' := [(0, .ref (xad X 95)), (1, .int v2), (2, .int (x2 + (1 : Int32)))]) [2, 1, 0] rfl ?_
    exact hk4 v2 (x2 + (1 : Int32))

theorem g_X9_clashMany_h4 {X : gX} (C : gC X cX9_clashMany RX9 3 (some .int) 1 22) (F : Nat) (M : gM) : ∀ (n : Nat) (x1 : Int32) (x2 : Int32), G X (gQm X rvR (rMR M)) 3 M [(0, .ref (xad X 95)), (1, .int x1), (2, .int x2)] [] 4 (f_X9_clashMany_h4 F M n x1 x2) := by
  intro n
  induction n with
  | zero =>
    intro x1 x2 r hr
    have hr2 : (none : Option Int32) = some r := hr
    cases hr2
  | succ n ih =>
    intro x1 x2
    exact g_X9_clashMany_h4_b C F M _ ih x1 x2
set_option maxRecDepth 100000 in
set_option maxHeartbeats 4000000 in
theorem c_X9_clashMany (F : Nat)  (M : gM) : gCt yX9_clashMany cX9_clashMany 3 (some .int) 1 22 (fun ad K V => [.ref (ad 95)]) rvR (rMR M) M (f_X9_clashMany F M) := by
  refine g_met (y := yX9_clashMany) (by decide +kernel) (fun _ _ _ => Nat.le_of_ble_eq_true rfl) (fun X C => ?_)
  show G X (gQm X rvR (rMR M)) 3 M [(0, .ref (xad X 95))] [] 0 (f_X9_clashMany F M)
  unfold f_X9_clashMany
  refine g_iconst (pc := 0) C dX9_clashMany_0 ic_iconst_0 ?_
  refine g_istore_n (pc := 1) (lv' := [(1, .int (0 : Int32)), (0, .ref (xad X 95))]) C dX9_clashMany_1 rfl (by decide) rfl ?_
  refine g_iconst (pc := 2) C dX9_clashMany_2 ic_iconst_0 ?_
  refine g_istore_n (pc := 3) (lv' := [(2, .int (0 : Int32)), (1, .int (0 : Int32)), (0, .ref (xad X 95))]) C dX9_clashMany_3 rfl (by decide) rfl ?_
  refine g_sub (lv' := [(0, .ref (xad X 95)), (1, .int (0 : Int32)), (2, .int (0 : Int32))]) [2, 1, 0] rfl ?_
  exact g_X9_clashMany_h4 C F M F (0 : Int32) (0 : Int32)

/-! X9_copy -/
set_option maxRecDepth 100000 in
set_option maxHeartbeats 4000000 in
theorem g_X9_copy_h2_b {X : gX} (C : gC X cX9_copy RX9 4 none 0 0) (F : Nat) (a0 : Int32) (a1 : Int32) (k2 : Int32 → gM → Option gM) (hk2 : ∀ (x3 : Int32) (M : gM), G X (gQm X rvV rMV) 4 M [(0, .ref (xad X 95)), (1, .int a0), (2, .int a1), (3, .int x3)] [] 2 (k2 x3 M)) (x3 : Int32) (M : gM) : G X (gQm X rvV rMV) 4 M [(0, .ref (xad X 95)), (1, .int a0), (2, .int a1), (3, .int x3)] [] 2 (f_X9_copy_h2_b F a0 a1 k2 x3 M) := by
  unfold f_X9_copy_h2_b
  refine g_iload_n (pc := 2) C dX9_copy_2 rfl 3 rfl ?_
  refine g_bipush (pc := 3) C dX9_copy_3 ic_bipush_40 ?_
  refine g_icmp_ge (pc := 5) (tgt := 30) C dX9_copy_5 (by decide) ?_ ?_
  · exact g_vret (pc := 30) C dX9_copy_30 rfl rfl
  · refine g_aload_n (pc := 8) C dX9_copy_8 rfl 0 rfl ?_
    refine gf_X9_7 (pc := 9) (u := 96) C kd_95 rfl dX9_copy_9 ?_
    refine g_iload_n (pc := 12) C dX9_copy_12 rfl 2 rfl ?_
    refine g_iload_n (pc := 13) C dX9_copy_13 rfl 3 rfl ?_
    refine g_iadd (pc := 14) C dX9_copy_14 ?_
    refine g_aload_n (pc := 15) C dX9_copy_15 rfl 0 rfl ?_
    refine gf_X9_7 (pc := 16) (u := 96) C kd_95 rfl dX9_copy_16 ?_
    refine g_iload_n (pc := 19) C dX9_copy_19 rfl 1 rfl ?_
    refine g_iload_n (pc := 20) C dX9_copy_20 rfl 3 rfl ?_
    refine g_iadd (pc := 21) C dX9_copy_21 ?_
    refine g_iald (pc := 22) C kd_96 dX9_copy_22 ?_
    refine g_iast (pc := 23) C kd_96 dX9_copy_23 ?_
    refine g_ltM (fun M1 => ?_)
    refine g_iinc (pc := 24) (j := 3) (lv' := [(3, .int (x3 + (1 : Int32))), (0, .ref (xad X 95)), (1, .int a0), (2, .int a1)]) C dX9_copy_24 rfl (ii_1 _) (by decide) rfl ?_
    refine g_goto (pc := 27) (tgt := 2) C dX9_copy_27 (by decide) ?_
    refine g_sub (lv' := [(0, .ref (xad X 95)), (1, .int a0), (2, .int a1), (3, .int (x3 + (1 : Int32)))]) [1, 2, 3, 0] rfl ?_
    exact hk2 (x3 + (1 : Int32)) M1

theorem g_X9_copy_h2 {X : gX} (C : gC X cX9_copy RX9 4 none 0 0) (F : Nat) (a0 : Int32) (a1 : Int32) : ∀ (n : Nat) (x3 : Int32) (M : gM), G X (gQm X rvV rMV) 4 M [(0, .ref (xad X 95)), (1, .int a0), (2, .int a1), (3, .int x3)] [] 2 (f_X9_copy_h2 F a0 a1 n x3 M) := by
  intro n
  induction n with
  | zero =>
    intro x3 M r hr
    have hr2 : (none : Option gM) = some r := hr
    cases hr2
  | succ n ih =>
    intro x3 M
    exact g_X9_copy_h2_b C F a0 a1 _ ih x3 M
set_option maxRecDepth 100000 in
set_option maxHeartbeats 4000000 in
theorem c_X9_copy (F : Nat) (a0 : Int32) (a1 : Int32)  (M : gM) : gCt yX9_copy cX9_copy 4 none 0 0 (fun ad K V => [.ref (ad 95), .int a0, .int a1]) rvV rMV M (f_X9_copy F a0 a1 M) := by
  refine g_met (y := yX9_copy) (by decide +kernel) (fun _ _ _ => Nat.le_of_ble_eq_true rfl) (fun X C => ?_)
  show G X (gQm X rvV rMV) 4 M [(0, .ref (xad X 95)), (1, .int a0), (2, .int a1)] [] 0 (f_X9_copy F a0 a1 M)
  unfold f_X9_copy
  refine g_iconst (pc := 0) C dX9_copy_0 ic_iconst_0 ?_
  refine g_istore_n (pc := 1) (lv' := [(3, .int (0 : Int32)), (0, .ref (xad X 95)), (1, .int a0), (2, .int a1)]) C dX9_copy_1 rfl (by decide) rfl ?_
  refine g_sub (lv' := [(0, .ref (xad X 95)), (1, .int a0), (2, .int a1), (3, .int (0 : Int32))]) [1, 2, 3, 0] rfl ?_
  exact g_X9_copy_h2 C F a0 a1 F (0 : Int32) M

/-! X9_findSets -/
set_option maxRecDepth 100000 in
set_option maxHeartbeats 4000000 in
theorem g_X9_findSets_h66_b {X : gX} (C : gC X cX9_findSets RX9 4 none 4 96) (F : Nat) (a0 : Int32) (a1 : Int32) (k66 : Int32 → gM → Option gM) (hk66 : ∀ (x3 : Int32) (M : gM), G X (gQm X rvV rMV) 4 M [(0, .ref (xad X 95)), (2, .int a1), (3, .int x3)] [] 66 (k66 x3 M)) (x3 : Int32) (M : gM) : G X (gQm X rvV rMV) 4 M [(0, .ref (xad X 95)), (2, .int a1), (3, .int x3)] [] 66 (f_X9_findSets_h66_b F a0 a1 k66 x3 M) := by
  unfold f_X9_findSets_h66_b
  refine g_iload_n (pc := 66) C dX9_findSets_66 rfl 2 rfl ?_
  refine g_sipush (pc := 67) C dX9_findSets_67 ic_sipush_1024 ?_
  refine g_icmp_ge (pc := 70) (tgt := 97) C dX9_findSets_70 (by decide) ?_ ?_
  · exact g_vret (pc := 97) C dX9_findSets_97 rfl rfl
  · refine g_aload_n (pc := 73) C dX9_findSets_73 rfl 0 rfl ?_
    refine gf_X9_60 (pc := 74) (u := 111) C kd_95 rfl dX9_findSets_74 ?_
    refine g_sipush (pc := 77) C dX9_findSets_77 ic_sipush_1024 ?_
    refine g_iload_n (pc := 80) C dX9_findSets_80 rfl 1 rfl ?_
    refine g_imul (pc := 81) C dX9_findSets_81 ?_
    refine g_iload_n (pc := 82) C dX9_findSets_82 rfl 2 rfl ?_
    refine g_iadd (pc := 83) C dX9_findSets_83 ?_
    refine g_aload_n (pc := 84) C dX9_findSets_84 rfl 0 rfl ?_
    refine gf_X9_69 (pc := 85) (u := 114) C kd_95 rfl dX9_findSets_85 ?_
    refine g_iload_n (pc := 88) C dX9_findSets_88 rfl 2 rfl ?_
    refine g_zald (pc := 89) C kd_114 dX9_findSets_89 ?_
    refine g_zast (pc := 90) C kd_111 dX9_findSets_90 ?_
    refine g_ltM (fun M1 => ?_)
    refine g_iinc (pc := 91) (j := 2) (lv' := [(3, .int (x3 + (1 : Int32))), (0, .ref (xad X 95)), (2, .int a1)]) C dX9_findSets_91 rfl (ii_1 _) (by decide) rfl ?_
    refine g_goto (pc := 94) (tgt := 66) C dX9_findSets_94 (by decide) ?_
    refine g_sub (lv' := [(0, .ref (xad X 95)), (2, .int a1), (3, .int (x3 + (1 : Int32)))]) [1, 2, 0] rfl ?_
    exact hk66 (x3 + (1 : Int32)) M1

theorem g_X9_findSets_h66 {X : gX} (C : gC X cX9_findSets RX9 4 none 4 96) (F : Nat) (a0 : Int32) (a1 : Int32) : ∀ (n : Nat) (x3 : Int32) (M : gM), G X (gQm X rvV rMV) 4 M [(0, .ref (xad X 95)), (2, .int a1), (3, .int x3)] [] 66 (f_X9_findSets_h66 F a0 a1 n x3 M) := by
  intro n
  induction n with
  | zero =>
    intro x3 M r hr
    have hr2 : (none : Option gM) = some r := hr
    cases hr2
  | succ n ih =>
    intro x3 M
    exact g_X9_findSets_h66_b C F a0 a1 _ ih x3 M
set_option maxRecDepth 100000 in
set_option maxHeartbeats 4000000 in
theorem g_X9_findSets_h32_b {X : gX} (C : gC X cX9_findSets RX9 4 none 4 96) (F : Nat) (a0 : Int32) (a1 : Int32) (k32 : Int32 → gM → Option gM) (hk32 : ∀ (x3 : Int32) (M : gM), G X (gQm X rvV rMV) 4 M [(0, .ref (xad X 95)), (1, .int a0), (2, .int a1), (3, .int x3)] [] 32 (k32 x3 M)) (x3 : Int32) (M : gM) : G X (gQm X rvV rMV) 4 M [(0, .ref (xad X 95)), (1, .int a0), (2, .int a1), (3, .int x3)] [] 32 (f_X9_findSets_h32_b F a0 a1 k32 x3 M) := by
  unfold f_X9_findSets_h32_b
  refine g_iload_n (pc := 32) C dX9_findSets_32 rfl 3 rfl ?_
  refine g_aload_n (pc := 33) C dX9_findSets_33 rfl 0 rfl ?_
  refine gf_X9_47 (pc := 34) (u := 108) C kd_95 rfl dX9_findSets_34 ?_
  refine g_iconst (pc := 37) C dX9_findSets_37 ic_iconst_1 ?_
  refine g_iald (pc := 38) C kd_108 dX9_findSets_38 ?_
  refine g_icmp_ge (pc := 39) (tgt := 64) C dX9_findSets_39 (by decide) ?_ ?_
  · refine g_iconst (pc := 64) C dX9_findSets_64 ic_iconst_0 ?_
    refine g_istore_n (pc := 65) (lv' := [(3, .int (0 : Int32)), (0, .ref (xad X 95)), (1, .int a0), (2, .int a1)]) C dX9_findSets_65 rfl (by decide) rfl ?_
    refine g_sub (lv' := [(0, .ref (xad X 95)), (2, .int a1), (3, .int (0 : Int32))]) [1, 3, 0] rfl ?_
    exact g_X9_findSets_h66 C F a0 a1 F (0 : Int32) M
  · refine g_aload_n (pc := 42) C dX9_findSets_42 rfl 0 rfl ?_
    refine gf_X9_38 (pc := 43) (u := 105) C kd_95 rfl dX9_findSets_43 ?_
    refine g_iload_n (pc := 46) C dX9_findSets_46 rfl 3 rfl ?_
    refine g_iald (pc := 47) C kd_105 dX9_findSets_47 ?_
    refine g_iload_n (pc := 48) C dX9_findSets_48 rfl 2 rfl ?_
    refine g_icmp_ne (pc := 49) (tgt := 58) C dX9_findSets_49 (by decide) ?_ ?_
    · refine g_iinc (pc := 58) (j := 3) (lv' := [(3, .int (x3 + (1 : Int32))), (0, .ref (xad X 95)), (1, .int a0), (2, .int a1)]) C dX9_findSets_58 rfl (ii_1 _) (by decide) rfl ?_
      refine g_goto (pc := 61) (tgt := 32) C dX9_findSets_61 (by decide) ?_
      refine g_sub (lv' := [(0, .ref (xad X 95)), (1, .int a0), (2, .int a1), (3, .int (x3 + (1 : Int32)))]) [1, 2, 3, 0] rfl ?_
      exact hk32 (x3 + (1 : Int32)) M
    · refine g_aload_n (pc := 52) C dX9_findSets_52 rfl 0 rfl ?_
      refine g_iload_n (pc := 53) C dX9_findSets_53 rfl 1 rfl ?_
      refine g_iload_n (pc := 54) C dX9_findSets_54 rfl 3 rfl ?_
      refine g_callV (pc := 55) C (g_runV (stk := []) C (c_X9_addScene F a0 x3 M) rfl rfl rfl kd_95 rfl wC_X9_addScene wI_X9_addScene wV_X9_addScene wi_X9 wm_X9_205 hy_X9_addScene (by decide) (Nat.le_of_ble_eq_true rfl) dX9_findSets_55) (fun r2 => ?_)
      refine g_iinc (pc := 58) (j := 3) (lv' := [(3, .int (x3 + (1 : Int32))), (0, .ref (xad X 95)), (1, .int a0), (2, .int a1)]) C dX9_findSets_58 rfl (ii_1 _) (by decide) rfl ?_
      refine g_goto (pc := 61) (tgt := 32) C dX9_findSets_61 (by decide) ?_
      refine g_sub (lv' := [(0, .ref (xad X 95)), (1, .int a0), (2, .int a1), (3, .int (x3 + (1 : Int32)))]) [1, 2, 3, 0] rfl ?_
      exact hk32 (x3 + (1 : Int32)) r2

theorem g_X9_findSets_h32 {X : gX} (C : gC X cX9_findSets RX9 4 none 4 96) (F : Nat) (a0 : Int32) (a1 : Int32) : ∀ (n : Nat) (x3 : Int32) (M : gM), G X (gQm X rvV rMV) 4 M [(0, .ref (xad X 95)), (1, .int a0), (2, .int a1), (3, .int x3)] [] 32 (f_X9_findSets_h32 F a0 a1 n x3 M) := by
  intro n
  induction n with
  | zero =>
    intro x3 M r hr
    have hr2 : (none : Option gM) = some r := hr
    cases hr2
  | succ n ih =>
    intro x3 M
    exact g_X9_findSets_h32_b C F a0 a1 _ ih x3 M
set_option maxRecDepth 100000 in
set_option maxHeartbeats 4000000 in
theorem g_X9_findSets_h2_b {X : gX} (C : gC X cX9_findSets RX9 4 none 4 96) (F : Nat) (a0 : Int32) (a1 : Int32) (k2 : Int32 → gM → Option gM) (hk2 : ∀ (x3 : Int32) (M : gM), G X (gQm X rvV rMV) 4 M [(0, .ref (xad X 95)), (1, .int a0), (2, .int a1), (3, .int x3)] [] 2 (k2 x3 M)) (x3 : Int32) (M : gM) : G X (gQm X rvV rMV) 4 M [(0, .ref (xad X 95)), (1, .int a0), (2, .int a1), (3, .int x3)] [] 2 (f_X9_findSets_h2_b F a0 a1 k2 x3 M) := by
  unfold f_X9_findSets_h2_b
  refine g_iload_n (pc := 2) C dX9_findSets_2 rfl 3 rfl ?_
  refine g_sipush (pc := 3) C dX9_findSets_3 ic_sipush_1024 ?_
  refine g_icmp_ge (pc := 6) (tgt := 30) C dX9_findSets_6 (by decide) ?_ ?_
  · refine g_iconst (pc := 30) C dX9_findSets_30 ic_iconst_0 ?_
    refine g_istore_n (pc := 31) (lv' := [(3, .int (0 : Int32)), (0, .ref (xad X 95)), (1, .int a0), (2, .int a1)]) C dX9_findSets_31 rfl (by decide) rfl ?_
    refine g_sub (lv' := [(0, .ref (xad X 95)), (1, .int a0), (2, .int a1), (3, .int (0 : Int32))]) [1, 2, 3, 0] rfl ?_
    exact g_X9_findSets_h32 C F a0 a1 F (0 : Int32) M
  · refine g_aload_n (pc := 9) C dX9_findSets_9 rfl 0 rfl ?_
    refine gf_X9_69 (pc := 10) (u := 114) C kd_95 rfl dX9_findSets_10 ?_
    refine g_iload_n (pc := 13) C dX9_findSets_13 rfl 3 rfl ?_
    refine g_iload_n (pc := 14) C dX9_findSets_14 rfl 3 rfl ?_
    refine g_if_ne (pc := 15) (tgt := 22) C dX9_findSets_15 (by decide) ?_ ?_
    · refine g_iconst (pc := 22) C dX9_findSets_22 ic_iconst_0 ?_
      refine g_zast (pc := 23) C kd_114 dX9_findSets_23 ?_
      refine g_ltM (fun M3 => ?_)
      refine g_iinc (pc := 24) (j := 3) (lv' := [(3, .int (x3 + (1 : Int32))), (0, .ref (xad X 95)), (1, .int a0), (2, .int a1)]) C dX9_findSets_24 rfl (ii_1 _) (by decide) rfl ?_
      refine g_goto (pc := 27) (tgt := 2) C dX9_findSets_27 (by decide) ?_
      refine g_sub (lv' := [(0, .ref (xad X 95)), (1, .int a0), (2, .int a1), (3, .int (x3 + (1 : Int32)))]) [1, 2, 3, 0] rfl ?_
      exact hk2 (x3 + (1 : Int32)) M3
    · refine g_iconst (pc := 18) C dX9_findSets_18 ic_iconst_1 ?_
      refine g_goto (pc := 19) (tgt := 23) C dX9_findSets_19 (by decide) ?_
      refine g_zast (pc := 23) C kd_114 dX9_findSets_23 ?_
      refine g_ltM (fun M4 => ?_)
      refine g_iinc (pc := 24) (j := 3) (lv' := [(3, .int (x3 + (1 : Int32))), (0, .ref (xad X 95)), (1, .int a0), (2, .int a1)]) C dX9_findSets_24 rfl (ii_1 _) (by decide) rfl ?_
      refine g_goto (pc := 27) (tgt := 2) C dX9_findSets_27 (by decide) ?_
      refine g_sub (lv' := [(0, .ref (xad X 95)), (1, .int a0), (2, .int a1), (3, .int (x3 + (1 : Int32)))]) [1, 2, 3, 0] rfl ?_
      exact hk2 (x3 + (1 : Int32)) M4

theorem g_X9_findSets_h2 {X : gX} (C : gC X cX9_findSets RX9 4 none 4 96) (F : Nat) (a0 : Int32) (a1 : Int32) : ∀ (n : Nat) (x3 : Int32) (M : gM), G X (gQm X rvV rMV) 4 M [(0, .ref (xad X 95)), (1, .int a0), (2, .int a1), (3, .int x3)] [] 2 (f_X9_findSets_h2 F a0 a1 n x3 M) := by
  intro n
  induction n with
  | zero =>
    intro x3 M r hr
    have hr2 : (none : Option gM) = some r := hr
    cases hr2
  | succ n ih =>
    intro x3 M
    exact g_X9_findSets_h2_b C F a0 a1 _ ih x3 M
set_option maxRecDepth 100000 in
set_option maxHeartbeats 4000000 in
theorem c_X9_findSets (F : Nat) (a0 : Int32) (a1 : Int32)  (M : gM) : gCt yX9_findSets cX9_findSets 4 none 4 96 (fun ad K V => [.ref (ad 95), .int a0, .int a1]) rvV rMV M (f_X9_findSets F a0 a1 M) := by
  refine g_met (y := yX9_findSets) (by decide +kernel) (fun _ _ _ => Nat.le_of_ble_eq_true rfl) (fun X C => ?_)
  show G X (gQm X rvV rMV) 4 M [(0, .ref (xad X 95)), (1, .int a0), (2, .int a1)] [] 0 (f_X9_findSets F a0 a1 M)
  unfold f_X9_findSets
  refine g_iconst (pc := 0) C dX9_findSets_0 ic_iconst_0 ?_
  refine g_istore_n (pc := 1) (lv' := [(3, .int (0 : Int32)), (0, .ref (xad X 95)), (1, .int a0), (2, .int a1)]) C dX9_findSets_1 rfl (by decide) rfl ?_
  refine g_sub (lv' := [(0, .ref (xad X 95)), (1, .int a0), (2, .int a1), (3, .int (0 : Int32))]) [1, 2, 3, 0] rfl ?_
  exact g_X9_findSets_h2 C F a0 a1 F (0 : Int32) M

/-! X9_findAllSets -/
set_option maxRecDepth 100000 in
set_option maxHeartbeats 4000000 in
theorem g_X9_findAllSets_h2_b {X : gX} (C : gC X cX9_findAllSets RX9 3 none 5 119) (F : Nat) (a0 : Int32) (k2 : Int32 → gM → Option gM) (hk2 : ∀ (x2 : Int32) (M : gM), G X (gQm X rvV rMV) 3 M [(0, .ref (xad X 95)), (1, .int a0), (2, .int x2)] [] 2 (k2 x2 M)) (x2 : Int32) (M : gM) : G X (gQm X rvV rMV) 3 M [(0, .ref (xad X 95)), (1, .int a0), (2, .int x2)] [] 2 (f_X9_findAllSets_h2_b F a0 k2 x2 M) := by
  unfold f_X9_findAllSets_h2_b
  refine g_iload_n (pc := 2) C dX9_findAllSets_2 rfl 2 rfl ?_
  refine g_bipush (pc := 3) C dX9_findAllSets_3 ic_bipush_12 ?_
  refine g_icmp_ge (pc := 5) (tgt := 20) C dX9_findAllSets_5 (by decide) ?_ ?_
  · exact g_vret (pc := 20) C dX9_findAllSets_20 rfl rfl
  · refine g_aload_n (pc := 8) C dX9_findAllSets_8 rfl 0 rfl ?_
    refine g_iload_n (pc := 9) C dX9_findAllSets_9 rfl 1 rfl ?_
    refine g_iload_n (pc := 10) C dX9_findAllSets_10 rfl 2 rfl ?_
    refine g_callV (pc := 11) C (g_runV (stk := []) C (c_X9_findSets F a0 x2 M) rfl rfl rfl kd_95 rfl wC_X9_findSets wI_X9_findSets wV_X9_findSets wi_X9 wm_X9_210 hy_X9_findSets (by decide) (Nat.le_of_ble_eq_true rfl) dX9_findAllSets_11) (fun r1 => ?_)
    refine g_iinc (pc := 14) (j := 2) (lv' := [(2, .int (x2 + (1 : Int32))), (0, .ref (xad X 95)), (1, .int a0)]) C dX9_findAllSets_14 rfl (ii_1 _) (by decide) rfl ?_
    refine g_goto (pc := 17) (tgt := 2) C dX9_findAllSets_17 (by decide) ?_
    refine g_sub (lv' := [(0, .ref (xad X 95)), (1, .int a0), (2, .int (x2 + (1 : Int32)))]) [1, 2, 0] rfl ?_
    exact hk2 (x2 + (1 : Int32)) r1

theorem g_X9_findAllSets_h2 {X : gX} (C : gC X cX9_findAllSets RX9 3 none 5 119) (F : Nat) (a0 : Int32) : ∀ (n : Nat) (x2 : Int32) (M : gM), G X (gQm X rvV rMV) 3 M [(0, .ref (xad X 95)), (1, .int a0), (2, .int x2)] [] 2 (f_X9_findAllSets_h2 F a0 n x2 M) := by
  intro n
  induction n with
  | zero =>
    intro x2 M r hr
    have hr2 : (none : Option gM) = some r := hr
    cases hr2
  | succ n ih =>
    intro x2 M
    exact g_X9_findAllSets_h2_b C F a0 _ ih x2 M
set_option maxRecDepth 100000 in
set_option maxHeartbeats 4000000 in
theorem c_X9_findAllSets (F : Nat) (a0 : Int32)  (M : gM) : gCt yX9_findAllSets cX9_findAllSets 3 none 5 119 (fun ad K V => [.ref (ad 95), .int a0]) rvV rMV M (f_X9_findAllSets F a0 M) := by
  refine g_met (y := yX9_findAllSets) (by decide +kernel) (fun _ _ _ => Nat.le_of_ble_eq_true rfl) (fun X C => ?_)
  show G X (gQm X rvV rMV) 3 M [(0, .ref (xad X 95)), (1, .int a0)] [] 0 (f_X9_findAllSets F a0 M)
  unfold f_X9_findAllSets
  refine g_iconst (pc := 0) C dX9_findAllSets_0 ic_iconst_0 ?_
  refine g_istore_n (pc := 1) (lv' := [(2, .int (0 : Int32)), (0, .ref (xad X 95)), (1, .int a0)]) C dX9_findAllSets_1 rfl (by decide) rfl ?_
  refine g_sub (lv' := [(0, .ref (xad X 95)), (1, .int a0), (2, .int (0 : Int32))]) [1, 2, 0] rfl ?_
  exact g_X9_findAllSets_h2 C F a0 F (0 : Int32) M

/-! X9_findLeast -/
set_option maxRecDepth 100000 in
set_option maxHeartbeats 4000000 in
theorem g_X9_findLeast_h52_b {X : gX} (C : gC X cX9_findLeast RX9 4 none 3 71) (F : Nat) (a0 : Int32) (k29 : Int32 → gM → Option gM) (hk29 : ∀ (x2 : Int32) (M : gM), G X (gQm X rvV rMV) 4 M [(0, .ref (xad X 95)), (1, .int a0), (2, .int x2)] [] 29 (k29 x2 M)) (k52 : Int32 → Int32 → gM → Option gM) (hk52 : ∀ (x2 : Int32) (x3 : Int32) (M : gM), G X (gQm X rvV rMV) 4 M [(0, .ref (xad X 95)), (1, .int a0), (2, .int x2), (3, .int x3)] [] 52 (k52 x2 x3 M)) (x2 : Int32) (x3 : Int32) (M : gM) : G X (gQm X rvV rMV) 4 M [(0, .ref (xad X 95)), (1, .int a0), (2, .int x2), (3, .int x3)] [] 52 (f_X9_findLeast_h52_b F a0 k29 k52 x2 x3 M) := by
  unfold f_X9_findLeast_h52_b
  refine g_iload_n (pc := 52) C dX9_findLeast_52 rfl 3 rfl ?_
  refine g_sipush (pc := 53) C dX9_findLeast_53 ic_sipush_1024 ?_
  refine g_icmp_ge (pc := 56) (tgt := 123) C dX9_findLeast_56 (by decide) ?_ ?_
  · refine g_iinc (pc := 123) (j := 2) (lv' := [(2, .int (x2 + (-1 : Int32))), (0, .ref (xad X 95)), (1, .int a0), (3, .int x3)]) C dX9_findLeast_123 rfl (ii_m1 _) (by decide) rfl ?_
    refine g_goto (pc := 126) (tgt := 29) C dX9_findLeast_126 (by decide) ?_
    refine g_sub (lv' := [(0, .ref (xad X 95)), (1, .int a0), (2, .int (x2 + (-1 : Int32)))]) [1, 2, 0] rfl ?_
    exact hk29 (x2 + (-1 : Int32)) M
  · refine g_iload_n (pc := 59) C dX9_findLeast_59 rfl 2 rfl ?_
    refine g_if_le (pc := 60) (tgt := 123) C dX9_findLeast_60 (by decide) ?_ ?_
    · refine g_iinc (pc := 123) (j := 2) (lv' := [(2, .int (x2 + (-1 : Int32))), (0, .ref (xad X 95)), (1, .int a0), (3, .int x3)]) C dX9_findLeast_123 rfl (ii_m1 _) (by decide) rfl ?_
      refine g_goto (pc := 126) (tgt := 29) C dX9_findLeast_126 (by decide) ?_
      refine g_sub (lv' := [(0, .ref (xad X 95)), (1, .int a0), (2, .int (x2 + (-1 : Int32)))]) [1, 2, 0] rfl ?_
      exact hk29 (x2 + (-1 : Int32)) M
    · refine g_aload_n (pc := 63) C dX9_findLeast_63 rfl 0 rfl ?_
      refine gf_X9_7 (pc := 64) (u := 96) C kd_95 rfl dX9_findLeast_64 ?_
      refine g_iload_n (pc := 67) C dX9_findLeast_67 rfl 1 rfl ?_
      refine g_bipush (pc := 68) C dX9_findLeast_68 ic_bipush_31 ?_
      refine g_iadd (pc := 70) C dX9_findLeast_70 ?_
      refine g_iald (pc := 71) C kd_96 dX9_findLeast_71 ?_
      refine g_iconst (pc := 72) C dX9_findLeast_72 ic_iconst_1 ?_
      refine g_icmp_ne (pc := 73) (tgt := 123) C dX9_findLeast_73 (by decide) ?_ ?_
      · refine g_iinc (pc := 123) (j := 2) (lv' := [(2, .int (x2 + (-1 : Int32))), (0, .ref (xad X 95)), (1, .int a0), (3, .int x3)]) C dX9_findLeast_123 rfl (ii_m1 _) (by decide) rfl ?_
        refine g_goto (pc := 126) (tgt := 29) C dX9_findLeast_126 (by decide) ?_
        refine g_sub (lv' := [(0, .ref (xad X 95)), (1, .int a0), (2, .int (x2 + (-1 : Int32)))]) [1, 2, 0] rfl ?_
        exact hk29 (x2 + (-1 : Int32)) M
      · refine g_aload_n (pc := 76) C dX9_findLeast_76 rfl 0 rfl ?_
        refine gf_X9_63 (pc := 77) (u := 112) C kd_95 rfl dX9_findLeast_77 ?_
        refine g_sipush (pc := 80) C dX9_findLeast_80 ic_sipush_1024 ?_
        refine g_iload_n (pc := 83) C dX9_findLeast_83 rfl 2 rfl ?_
        refine g_imul (pc := 84) C dX9_findLeast_84 ?_
        refine g_iload_n (pc := 85) C dX9_findLeast_85 rfl 3 rfl ?_
        refine g_iadd (pc := 86) C dX9_findLeast_86 ?_
        refine g_aload_n (pc := 87) C dX9_findLeast_87 rfl 0 rfl ?_
        refine gf_X9_60 (pc := 88) (u := 111) C kd_95 rfl dX9_findLeast_88 ?_
        refine g_sipush (pc := 91) C dX9_findLeast_91 ic_sipush_1024 ?_
        refine g_iload_n (pc := 94) C dX9_findLeast_94 rfl 2 rfl ?_
        refine g_iconst (pc := 95) C dX9_findLeast_95 ic_iconst_1 ?_
        refine g_isub (pc := 96) C dX9_findLeast_96 ?_
        refine g_imul (pc := 97) C dX9_findLeast_97 ?_
        refine g_iload_n (pc := 98) C dX9_findLeast_98 rfl 3 rfl ?_
        refine g_iadd (pc := 99) C dX9_findLeast_99 ?_
        refine g_zald (pc := 100) C kd_111 dX9_findLeast_100 ?_
        refine g_if_eq (pc := 101) (tgt := 114) C dX9_findLeast_101 (by decide) ?_ ?_
        · refine g_ldc (pc := 114) C wk_X9_209 dX9_findLeast_114 ?_
          refine g_iast (pc := 116) C kd_112 dX9_findLeast_116 ?_
          refine g_ltM (fun M3 => ?_)
          refine g_iinc (pc := 117) (j := 3) (lv' := [(3, .int (x3 + (1 : Int32))), (0, .ref (xad X 95)), (1, .int a0), (2, .int x2)]) C dX9_findLeast_117 rfl (ii_1 _) (by decide) rfl ?_
          refine g_goto (pc := 120) (tgt := 52) C dX9_findLeast_120 (by decide) ?_
          refine g_sub (lv' := [(0, .ref (xad X 95)), (1, .int a0), (2, .int x2), (3, .int (x3 + (1 : Int32)))]) [1, 2, 3, 0] rfl ?_
          exact hk52 x2 (x3 + (1 : Int32)) M3
        · refine g_aload_n (pc := 104) C dX9_findLeast_104 rfl 0 rfl ?_
          refine g_iload_n (pc := 105) C dX9_findLeast_105 rfl 1 rfl ?_
          refine g_iload_n (pc := 106) C dX9_findLeast_106 rfl 2 rfl ?_
          refine g_iload_n (pc := 107) C dX9_findLeast_107 rfl 3 rfl ?_
          refine g_callR (pc := 108) C (g_runV (stk := [.int (((1024 : Int32) * x2) + x3), .ref (xad X 112)]) C (c_X9_best F a0 x2 x3 M) rfl rfl rfl kd_95 rfl wC_X9_best wI_X9_best wV_X9_best wi_X9 wm_X9_213 hy_X9_best (by decide) (Nat.le_of_ble_eq_true rfl) dX9_findLeast_108) (fun r4 => ?_)
          refine g_goto (pc := 111) (tgt := 116) C dX9_findLeast_111 (by decide) ?_
          refine g_iast (pc := 116) C kd_112 dX9_findLeast_116 ?_
          refine g_ltM (fun M5 => ?_)
          refine g_iinc (pc := 117) (j := 3) (lv' := [(3, .int (x3 + (1 : Int32))), (0, .ref (xad X 95)), (1, .int a0), (2, .int x2)]) C dX9_findLeast_117 rfl (ii_1 _) (by decide) rfl ?_
          refine g_goto (pc := 120) (tgt := 52) C dX9_findLeast_120 (by decide) ?_
          refine g_sub (lv' := [(0, .ref (xad X 95)), (1, .int a0), (2, .int x2), (3, .int (x3 + (1 : Int32)))]) [1, 2, 3, 0] rfl ?_
          exact hk52 x2 (x3 + (1 : Int32)) M5

theorem g_X9_findLeast_h52 {X : gX} (C : gC X cX9_findLeast RX9 4 none 3 71) (F : Nat) (a0 : Int32) (k29 : Int32 → gM → Option gM) (hk29 : ∀ (x2 : Int32) (M : gM), G X (gQm X rvV rMV) 4 M [(0, .ref (xad X 95)), (1, .int a0), (2, .int x2)] [] 29 (k29 x2 M)) : ∀ (n : Nat) (x2 : Int32) (x3 : Int32) (M : gM), G X (gQm X rvV rMV) 4 M [(0, .ref (xad X 95)), (1, .int a0), (2, .int x2), (3, .int x3)] [] 52 (f_X9_findLeast_h52 F a0 k29 n x2 x3 M) := by
  intro n
  induction n with
  | zero =>
    intro x2 x3 M r hr
    have hr2 : (none : Option gM) = some r := hr
    cases hr2
  | succ n ih =>
    intro x2 x3 M
    exact g_X9_findLeast_h52_b C F a0 k29 hk29 _ ih x2 x3 M
set_option maxRecDepth 100000 in
set_option maxHeartbeats 4000000 in
theorem g_X9_findLeast_h29_b {X : gX} (C : gC X cX9_findLeast RX9 4 none 3 71) (F : Nat) (a0 : Int32) (k29 : Int32 → gM → Option gM) (hk29 : ∀ (x2 : Int32) (M : gM), G X (gQm X rvV rMV) 4 M [(0, .ref (xad X 95)), (1, .int a0), (2, .int x2)] [] 29 (k29 x2 M)) (x2 : Int32) (M : gM) : G X (gQm X rvV rMV) 4 M [(0, .ref (xad X 95)), (1, .int a0), (2, .int x2)] [] 29 (f_X9_findLeast_h29_b F a0 k29 x2 M) := by
  unfold f_X9_findLeast_h29_b
  refine g_iload_n (pc := 29) C dX9_findLeast_29 rfl 2 rfl ?_
  refine g_if_lt (pc := 30) (tgt := 129) C dX9_findLeast_30 (by decide) ?_ ?_
  · exact g_vret (pc := 129) C dX9_findLeast_129 rfl rfl
  · refine g_aload_n (pc := 33) C dX9_findLeast_33 rfl 0 rfl ?_
    refine gf_X9_63 (pc := 34) (u := 112) C kd_95 rfl dX9_findLeast_34 ?_
    refine g_sipush (pc := 37) C dX9_findLeast_37 ic_sipush_1024 ?_
    refine g_iload_n (pc := 40) C dX9_findLeast_40 rfl 2 rfl ?_
    refine g_imul (pc := 41) C dX9_findLeast_41 ?_
    refine g_aload_n (pc := 42) C dX9_findLeast_42 rfl 0 rfl ?_
    refine g_iload_n (pc := 43) C dX9_findLeast_43 rfl 1 rfl ?_
    refine g_iload_n (pc := 44) C dX9_findLeast_44 rfl 2 rfl ?_
    refine g_iconst (pc := 45) C dX9_findLeast_45 ic_iconst_0 ?_
    refine g_callR (pc := 46) C (g_runV (stk := [.int ((1024 : Int32) * x2), .ref (xad X 112)]) C (c_X9_best F a0 x2 (0 : Int32) M) rfl rfl rfl kd_95 rfl wC_X9_best wI_X9_best wV_X9_best wi_X9 wm_X9_213 hy_X9_best (by decide) (Nat.le_of_ble_eq_true rfl) dX9_findLeast_46) (fun r1 => ?_)
    refine g_iast (pc := 49) C kd_112 dX9_findLeast_49 ?_
    refine g_ltM (fun M2 => ?_)
    refine g_iconst (pc := 50) C dX9_findLeast_50 ic_iconst_1 ?_
    refine g_istore_n (pc := 51) (lv' := [(3, .int (1 : Int32)), (0, .ref (xad X 95)), (1, .int a0), (2, .int x2)]) C dX9_findLeast_51 rfl (by decide) rfl ?_
    refine g_sub (lv' := [(0, .ref (xad X 95)), (1, .int a0), (2, .int x2), (3, .int (1 : Int32))]) [1, 2, 3, 0] rfl ?_
    exact g_X9_findLeast_h52 C F a0 k29 hk29 F x2 (1 : Int32) M2

theorem g_X9_findLeast_h29 {X : gX} (C : gC X cX9_findLeast RX9 4 none 3 71) (F : Nat) (a0 : Int32) : ∀ (n : Nat) (x2 : Int32) (M : gM), G X (gQm X rvV rMV) 4 M [(0, .ref (xad X 95)), (1, .int a0), (2, .int x2)] [] 29 (f_X9_findLeast_h29 F a0 n x2 M) := by
  intro n
  induction n with
  | zero =>
    intro x2 M r hr
    have hr2 : (none : Option gM) = some r := hr
    cases hr2
  | succ n ih =>
    intro x2 M
    exact g_X9_findLeast_h29_b C F a0 _ ih x2 M
set_option maxRecDepth 100000 in
set_option maxHeartbeats 4000000 in
theorem g_X9_findLeast_h2_b {X : gX} (C : gC X cX9_findLeast RX9 4 none 3 71) (F : Nat) (a0 : Int32) (k2 : Int32 → gM → Option gM) (hk2 : ∀ (x2 : Int32) (M : gM), G X (gQm X rvV rMV) 4 M [(0, .ref (xad X 95)), (1, .int a0), (2, .int x2)] [] 2 (k2 x2 M)) (x2 : Int32) (M : gM) : G X (gQm X rvV rMV) 4 M [(0, .ref (xad X 95)), (1, .int a0), (2, .int x2)] [] 2 (f_X9_findLeast_h2_b F a0 k2 x2 M) := by
  unfold f_X9_findLeast_h2_b
  refine g_iload_n (pc := 2) C dX9_findLeast_2 rfl 2 rfl ?_
  refine g_sipush (pc := 3) C dX9_findLeast_3 ic_sipush_1024 ?_
  refine g_icmp_ge (pc := 6) (tgt := 26) C dX9_findLeast_6 (by decide) ?_ ?_
  · refine g_bipush (pc := 26) C dX9_findLeast_26 ic_bipush_11 ?_
    refine g_istore_n (pc := 28) (lv' := [(2, .int (11 : Int32)), (0, .ref (xad X 95)), (1, .int a0)]) C dX9_findLeast_28 rfl (by decide) rfl ?_
    refine g_sub (lv' := [(0, .ref (xad X 95)), (1, .int a0), (2, .int (11 : Int32))]) [1, 2, 0] rfl ?_
    exact g_X9_findLeast_h29 C F a0 F (11 : Int32) M
  · refine g_aload_n (pc := 9) C dX9_findLeast_9 rfl 0 rfl ?_
    refine gf_X9_63 (pc := 10) (u := 112) C kd_95 rfl dX9_findLeast_10 ?_
    refine g_sipush (pc := 13) C dX9_findLeast_13 ic_sipush_12288 ?_
    refine g_iload_n (pc := 16) C dX9_findLeast_16 rfl 2 rfl ?_
    refine g_iadd (pc := 17) C dX9_findLeast_17 ?_
    refine g_iconst (pc := 18) C dX9_findLeast_18 ic_iconst_0 ?_
    refine g_iast (pc := 19) C kd_112 dX9_findLeast_19 ?_
    refine g_ltM (fun M6 => ?_)
    refine g_iinc (pc := 20) (j := 2) (lv' := [(2, .int (x2 + (1 : Int32))), (0, .ref (xad X 95)), (1, .int a0)]) C dX9_findLeast_20 rfl (ii_1 _) (by decide) rfl ?_
    refine g_goto (pc := 23) (tgt := 2) C dX9_findLeast_23 (by decide) ?_
    refine g_sub (lv' := [(0, .ref (xad X 95)), (1, .int a0), (2, .int (x2 + (1 : Int32)))]) [1, 2, 0] rfl ?_
    exact hk2 (x2 + (1 : Int32)) M6

theorem g_X9_findLeast_h2 {X : gX} (C : gC X cX9_findLeast RX9 4 none 3 71) (F : Nat) (a0 : Int32) : ∀ (n : Nat) (x2 : Int32) (M : gM), G X (gQm X rvV rMV) 4 M [(0, .ref (xad X 95)), (1, .int a0), (2, .int x2)] [] 2 (f_X9_findLeast_h2 F a0 n x2 M) := by
  intro n
  induction n with
  | zero =>
    intro x2 M r hr
    have hr2 : (none : Option gM) = some r := hr
    cases hr2
  | succ n ih =>
    intro x2 M
    exact g_X9_findLeast_h2_b C F a0 _ ih x2 M
set_option maxRecDepth 100000 in
set_option maxHeartbeats 4000000 in
theorem c_X9_findLeast (F : Nat) (a0 : Int32)  (M : gM) : gCt yX9_findLeast cX9_findLeast 4 none 3 71 (fun ad K V => [.ref (ad 95), .int a0]) rvV rMV M (f_X9_findLeast F a0 M) := by
  refine g_met (y := yX9_findLeast) (by decide +kernel) (fun _ _ _ => Nat.le_of_ble_eq_true rfl) (fun X C => ?_)
  show G X (gQm X rvV rMV) 4 M [(0, .ref (xad X 95)), (1, .int a0)] [] 0 (f_X9_findLeast F a0 M)
  unfold f_X9_findLeast
  refine g_iconst (pc := 0) C dX9_findLeast_0 ic_iconst_0 ?_
  refine g_istore_n (pc := 1) (lv' := [(2, .int (0 : Int32)), (0, .ref (xad X 95)), (1, .int a0)]) C dX9_findLeast_1 rfl (by decide) rfl ?_
  refine g_sub (lv' := [(0, .ref (xad X 95)), (1, .int a0), (2, .int (0 : Int32))]) [1, 2, 0] rfl ?_
  exact g_X9_findLeast_h2 C F a0 F (0 : Int32) M

/-! X9_leastIn -/
set_option maxRecDepth 100000 in
set_option maxHeartbeats 4000000 in
theorem c_X9_leastIn (F : Nat) (a0 : Int32)  (M : gM) : gCt yX9_leastIn cX9_leastIn 2 (some .int) 6 141 (fun ad K V => [.ref (ad 95), .int a0]) rvW rMW M (f_X9_leastIn F a0 M) := by
  refine g_met (y := yX9_leastIn) (by decide +kernel) (fun _ _ _ => Nat.le_of_ble_eq_true rfl) (fun X C => ?_)
  show G X (gQm X rvW rMW) 2 M [(0, .ref (xad X 95)), (1, .int a0)] [] 0 (f_X9_leastIn F a0 M)
  unfold f_X9_leastIn
  refine g_aload_n (pc := 0) C dX9_leastIn_0 rfl 0 rfl ?_
  refine g_iload_n (pc := 1) C dX9_leastIn_1 rfl 1 rfl ?_
  refine g_callV (pc := 2) C (g_runV (stk := []) C (c_X9_findAllSets F a0 M) rfl rfl rfl kd_95 rfl wC_X9_findAllSets wI_X9_findAllSets wV_X9_findAllSets wi_X9 wm_X9_217 hy_X9_findAllSets (by decide) (Nat.le_of_ble_eq_true rfl) dX9_leastIn_2) (fun r1 => ?_)
  refine g_aload_n (pc := 5) C dX9_leastIn_5 rfl 0 rfl ?_
  refine g_iload_n (pc := 6) C dX9_leastIn_6 rfl 1 rfl ?_
  refine g_callV (pc := 7) C (g_runV (stk := []) C (c_X9_findLeast F a0 r1) rfl rfl rfl kd_95 rfl wC_X9_findLeast wI_X9_findLeast wV_X9_findLeast wi_X9 wm_X9_221 hy_X9_findLeast (by decide) (Nat.le_of_ble_eq_true rfl) dX9_leastIn_7) (fun r2 => ?_)
  refine g_aload_n (pc := 10) C dX9_leastIn_10 rfl 0 rfl ?_
  refine gf_X9_63 (pc := 11) (u := 112) C kd_95 rfl dX9_leastIn_11 ?_
  refine g_iconst (pc := 14) C dX9_leastIn_14 ic_iconst_0 ?_
  refine g_iald (pc := 15) C kd_112 dX9_leastIn_15 ?_
  refine g_ldc (pc := 16) C wk_X9_209 dX9_leastIn_16 ?_
  refine g_icmp_lt (pc := 18) (tgt := 25) C dX9_leastIn_18 (by decide) ?_ ?_
  · refine g_aload_n (pc := 25) C dX9_leastIn_25 rfl 0 rfl ?_
    refine gf_X9_63 (pc := 26) (u := 112) C kd_95 rfl dX9_leastIn_26 ?_
    refine g_iconst (pc := 29) C dX9_leastIn_29 ic_iconst_0 ?_
    refine g_iald (pc := 30) C kd_112 dX9_leastIn_30 ?_
    exact g_iret (pc := 31) C dX9_leastIn_31 rfl rfl
  · refine g_iconst (pc := 21) C dX9_leastIn_21 ic_iconst_m1 ?_
    refine g_goto (pc := 22) (tgt := 31) C dX9_leastIn_22 (by decide) ?_
    exact g_iret (pc := 31) C dX9_leastIn_31 rfl rfl

/-! X9_one -/
set_option maxRecDepth 100000 in
set_option maxHeartbeats 4000000 in
theorem c_X9_one (a0 : Int32)  (M : gM) : gCt yX9_one cX9_one 1 (some .int) 0 0 (fun ad K V => [.int a0]) rvR (rMR M) M (f_X9_one a0 M) := by
  refine g_met (y := yX9_one) (by decide +kernel) (fun _ _ _ => Nat.le_of_ble_eq_true rfl) (fun X C => ?_)
  show G X (gQm X rvR (rMR M)) 1 M [(0, .int a0)] [] 0 (f_X9_one a0 M)
  unfold f_X9_one
  refine g_iload_n (pc := 0) C dX9_one_0 rfl 0 rfl ?_
  refine g_if_eq (pc := 1) (tgt := 8) C dX9_one_1 (by decide) ?_ ?_
  · refine g_iconst (pc := 8) C dX9_one_8 ic_iconst_0 ?_
    exact g_iret (pc := 9) C dX9_one_9 rfl rfl
  · refine g_iconst (pc := 4) C dX9_one_4 ic_iconst_1 ?_
    refine g_goto (pc := 5) (tgt := 9) C dX9_one_5 (by decide) ?_
    exact g_iret (pc := 9) C dX9_one_9 rfl rfl

