/-! X2_isLook -/
set_option maxRecDepth 100000 in
set_option maxHeartbeats 4000000 in
theorem c_X2_isLook (a0 : Int32) (a1 : Int32) (a2 : Int32)  (M : gM) : gCt yX2_isLook cX2_isLook 4 (some .boolean) 2 43 (fun ad K V => [.ref (ad 39), .int a0, .int a1, .int a2]) rvR (rMR M) M (f_X2_isLook a0 a1 a2 M) := by
  refine g_met (y := yX2_isLook) (by decide +kernel) (fun _ _ _ => Nat.le_of_ble_eq_true rfl) (fun X C => ?_)
  show G X (gQm X rvR (rMR M)) 4 M [(0, .ref (xad X 39)), (1, .int a0), (2, .int a1), (3, .int a2)] [] 0 (f_X2_isLook a0 a1 a2 M)
  unfold f_X2_isLook
  refine g_aload_n (pc := 0) C dX2_isLook_0 rfl 0 rfl ?_
  refine gf_X2_21 (pc := 1) (u := 3) C kd_39 rfl dX2_isLook_1 ?_
  refine g_iload_n (pc := 4) C dX2_isLook_4 rfl 1 rfl ?_
  refine g_iconst (pc := 5) C dX2_isLook_5 ic_iconst_0 ?_
  refine g_callR (pc := 6) C (g_runVN (stk := []) C (c_X7_isOfKind 3 a0 (0 : Int32) kd_3 M) rfl rfl rfl kd_3 rfl wC_X7_isOfKind wI_X7_isOfKind wV_X7_isOfKind wi_X7 wnm_X2_42 hy_X7_isOfKind (by decide) (Nat.le_of_ble_eq_true rfl) dX2_isLook_6) (fun r1 => ?_)
  refine g_if_eq (pc := 9) (tgt := 76) C dX2_isLook_9 (by decide) ?_ ?_
  · refine g_iconst (pc := 76) C dX2_isLook_76 ic_iconst_0 ?_
    exact g_zretk (pc := 77) C rfl dX2_isLook_77 rfl rfl
  · refine g_aload_n (pc := 12) C dX2_isLook_12 rfl 0 rfl ?_
    refine gf_X2_21 (pc := 13) (u := 3) C kd_39 rfl dX2_isLook_13 ?_
    refine g_iload_n (pc := 16) C dX2_isLook_16 rfl 2 rfl ?_
    refine g_iconst (pc := 17) C dX2_isLook_17 ic_iconst_1 ?_
    refine g_callR (pc := 18) C (g_runVN (stk := []) C (c_X7_isOfKind 3 a1 (1 : Int32) kd_3 M) rfl rfl rfl kd_3 rfl wC_X7_isOfKind wI_X7_isOfKind wV_X7_isOfKind wi_X7 wnm_X2_42 hy_X7_isOfKind (by decide) (Nat.le_of_ble_eq_true rfl) dX2_isLook_18) (fun r2 => ?_)
    refine g_if_eq (pc := 21) (tgt := 76) C dX2_isLook_21 (by decide) ?_ ?_
    · refine g_iconst (pc := 76) C dX2_isLook_76 ic_iconst_0 ?_
      exact g_zretk (pc := 77) C rfl dX2_isLook_77 rfl rfl
    · refine g_aload_n (pc := 24) C dX2_isLook_24 rfl 0 rfl ?_
      refine gf_X2_21 (pc := 25) (u := 3) C kd_39 rfl dX2_isLook_25 ?_
      refine g_iload_n (pc := 28) C dX2_isLook_28 rfl 3 rfl ?_
      refine g_iconst (pc := 29) C dX2_isLook_29 ic_iconst_2 ?_
      refine g_callR (pc := 30) C (g_runVN (stk := []) C (c_X7_isOfKind 3 a2 (2 : Int32) kd_3 M) rfl rfl rfl kd_3 rfl wC_X7_isOfKind wI_X7_isOfKind wV_X7_isOfKind wi_X7 wnm_X2_42 hy_X7_isOfKind (by decide) (Nat.le_of_ble_eq_true rfl) dX2_isLook_30) (fun r3 => ?_)
      refine g_if_eq (pc := 33) (tgt := 76) C dX2_isLook_33 (by decide) ?_ ?_
      · refine g_iconst (pc := 76) C dX2_isLook_76 ic_iconst_0 ?_
        exact g_zretk (pc := 77) C rfl dX2_isLook_77 rfl rfl
      · refine g_aload_n (pc := 36) C dX2_isLook_36 rfl 0 rfl ?_
        refine gf_X2_21 (pc := 37) (u := 3) C kd_39 rfl dX2_isLook_37 ?_
        refine g_iload_n (pc := 40) C dX2_isLook_40 rfl 1 rfl ?_
        refine g_iload_n (pc := 41) C dX2_isLook_41 rfl 2 rfl ?_
        refine g_callR (pc := 42) C (g_runVN (stk := []) C (c_X7_isClash 3 a0 a1 kd_3 M) rfl rfl rfl kd_3 rfl wC_X7_isClash wI_X7_isClash wV_X7_isClash wi_X7 wnm_X2_46 hy_X7_isClash (by decide) (Nat.le_of_ble_eq_true rfl) dX2_isLook_42) (fun r4 => ?_)
        refine g_if_ne (pc := 45) (tgt := 76) C dX2_isLook_45 (by decide) ?_ ?_
        · refine g_iconst (pc := 76) C dX2_isLook_76 ic_iconst_0 ?_
          exact g_zretk (pc := 77) C rfl dX2_isLook_77 rfl rfl
        · refine g_aload_n (pc := 48) C dX2_isLook_48 rfl 0 rfl ?_
          refine gf_X2_21 (pc := 49) (u := 3) C kd_39 rfl dX2_isLook_49 ?_
          refine g_iload_n (pc := 52) C dX2_isLook_52 rfl 1 rfl ?_
          refine g_iload_n (pc := 53) C dX2_isLook_53 rfl 3 rfl ?_
          refine g_callR (pc := 54) C (g_runVN (stk := []) C (c_X7_isClash 3 a0 a2 kd_3 M) rfl rfl rfl kd_3 rfl wC_X7_isClash wI_X7_isClash wV_X7_isClash wi_X7 wnm_X2_46 hy_X7_isClash (by decide) (Nat.le_of_ble_eq_true rfl) dX2_isLook_54) (fun r5 => ?_)
          refine g_if_ne (pc := 57) (tgt := 76) C dX2_isLook_57 (by decide) ?_ ?_
          · refine g_iconst (pc := 76) C dX2_isLook_76 ic_iconst_0 ?_
            exact g_zretk (pc := 77) C rfl dX2_isLook_77 rfl rfl
          · refine g_aload_n (pc := 60) C dX2_isLook_60 rfl 0 rfl ?_
            refine gf_X2_21 (pc := 61) (u := 3) C kd_39 rfl dX2_isLook_61 ?_
            refine g_iload_n (pc := 64) C dX2_isLook_64 rfl 2 rfl ?_
            refine g_iload_n (pc := 65) C dX2_isLook_65 rfl 3 rfl ?_
            refine g_callR (pc := 66) C (g_runVN (stk := []) C (c_X7_isClash 3 a1 a2 kd_3 M) rfl rfl rfl kd_3 rfl wC_X7_isClash wI_X7_isClash wV_X7_isClash wi_X7 wnm_X2_46 hy_X7_isClash (by decide) (Nat.le_of_ble_eq_true rfl) dX2_isLook_66) (fun r6 => ?_)
            refine g_if_ne (pc := 69) (tgt := 76) C dX2_isLook_69 (by decide) ?_ ?_
            · refine g_iconst (pc := 76) C dX2_isLook_76 ic_iconst_0 ?_
              exact g_zretk (pc := 77) C rfl dX2_isLook_77 rfl rfl
            · refine g_iconst (pc := 72) C dX2_isLook_72 ic_iconst_1 ?_
              refine g_goto (pc := 73) (tgt := 77) C dX2_isLook_73 (by decide) ?_
              exact g_zretk (pc := 77) C rfl dX2_isLook_77 rfl rfl

/-! X2_build -/
set_option maxRecDepth 100000 in
set_option maxHeartbeats 4000000 in
theorem g_X2_build_h33_b {X : gX} (C : gC X cX2_build RX2 4 none 3 66) (F : Nat) (k7 : Int32 → gM → Option gM) (k20 : Int32 → Int32 → gM → Option gM) (hk7 : ∀ (x1 : Int32) (M : gM), G X (gQm X rvV rMV) 4 M [(0, .ref (xad X 39)), (1, .int x1)] [] 7 (k7 x1 M)) (hk20 : ∀ (x1 : Int32) (x2 : Int32) (M : gM), G X (gQm X rvV rMV) 4 M [(0, .ref (xad X 39)), (1, .int x1), (2, .int x2)] [] 20 (k20 x1 x2 M)) (k33 : Int32 → Int32 → Int32 → gM → Option gM) (hk33 : ∀ (x1 : Int32) (x2 : Int32) (x3 : Int32) (M : gM), G X (gQm X rvV rMV) 4 M [(0, .ref (xad X 39)), (1, .int x1), (2, .int x2), (3, .int x3)] [] 33 (k33 x1 x2 x3 M)) (x1 : Int32) (x2 : Int32) (x3 : Int32) (M : gM) : G X (gQm X rvV rMV) 4 M [(0, .ref (xad X 39)), (1, .int x1), (2, .int x2), (3, .int x3)] [] 33 (f_X2_build_h33_b F k7 k20 k33 x1 x2 x3 M) := by
  unfold f_X2_build_h33_b
  refine g_iload_n (pc := 33) C dX2_build_33 rfl 3 rfl ?_
  refine g_aload_n (pc := 34) C dX2_build_34 rfl 0 rfl ?_
  refine gf_X2_21 (pc := 35) (u := 3) C kd_39 rfl dX2_build_35 ?_
  refine gf_X2_33 (pc := 38) C kd_3 dX2_build_38 ?_
  refine g_icmp_ge (pc := 41) (tgt := 109) C dX2_build_41 (by decide) ?_ ?_
  · refine g_iinc (pc := 109) (j := 2) (lv' := [(2, .int (x2 + (1 : Int32))), (0, .ref (xad X 39)), (1, .int x1), (3, .int x3)]) C dX2_build_109 rfl (ii_1 _) (by decide) rfl ?_
    refine g_goto (pc := 112) (tgt := 20) C dX2_build_112 (by decide) ?_
    refine g_sub (lv' := [(0, .ref (xad X 39)), (1, .int x1), (2, .int (x2 + (1 : Int32)))]) [1, 2, 0] rfl ?_
    exact hk20 x1 (x2 + (1 : Int32)) M
  · refine g_aload_n (pc := 44) C dX2_build_44 rfl 0 rfl ?_
    refine g_iload_n (pc := 45) C dX2_build_45 rfl 1 rfl ?_
    refine g_iload_n (pc := 46) C dX2_build_46 rfl 2 rfl ?_
    refine g_iload_n (pc := 47) C dX2_build_47 rfl 3 rfl ?_
    refine g_callR (pc := 48) C (g_runV (stk := []) C (c_X2_isLook x1 x2 x3 M) rfl rfl rfl kd_39 rfl wC_X2_isLook wI_X2_isLook wV_X2_isLook wi_X2 wm_X2_38 hy_X2_isLook (by decide) (Nat.le_of_ble_eq_true rfl) dX2_build_48) (fun r2 => ?_)
    refine g_if_eq (pc := 51) (tgt := 103) C dX2_build_51 (by decide) ?_ ?_
    · refine g_iinc (pc := 103) (j := 3) (lv' := [(3, .int (x3 + (1 : Int32))), (0, .ref (xad X 39)), (1, .int x1), (2, .int x2)]) C dX2_build_103 rfl (ii_1 _) (by decide) rfl ?_
      refine g_goto (pc := 106) (tgt := 33) C dX2_build_106 (by decide) ?_
      refine g_sub (lv' := [(0, .ref (xad X 39)), (1, .int x1), (2, .int x2), (3, .int (x3 + (1 : Int32)))]) [1, 2, 3, 0] rfl ?_
      exact hk33 x1 x2 (x3 + (1 : Int32)) M
    · refine g_aload_n (pc := 54) C dX2_build_54 rfl 0 rfl ?_
      refine gf_X2_29 (pc := 55) C kd_39 dX2_build_55 ?_
      refine g_bipush (pc := 58) C dX2_build_58 ic_bipush_36 ?_
      refine g_icmp_ge (pc := 60) (tgt := 103) C dX2_build_60 (by decide) ?_ ?_
      · refine g_iinc (pc := 103) (j := 3) (lv' := [(3, .int (x3 + (1 : Int32))), (0, .ref (xad X 39)), (1, .int x1), (2, .int x2)]) C dX2_build_103 rfl (ii_1 _) (by decide) rfl ?_
        refine g_goto (pc := 106) (tgt := 33) C dX2_build_106 (by decide) ?_
        refine g_sub (lv' := [(0, .ref (xad X 39)), (1, .int x1), (2, .int x2), (3, .int (x3 + (1 : Int32)))]) [1, 2, 3, 0] rfl ?_
        exact hk33 x1 x2 (x3 + (1 : Int32)) M
      · refine g_aload_n (pc := 63) C dX2_build_63 rfl 0 rfl ?_
        refine gf_X2_11 (pc := 64) (u := 40) C kd_39 rfl dX2_build_64 ?_
        refine g_aload_n (pc := 67) C dX2_build_67 rfl 0 rfl ?_
        refine gf_X2_29 (pc := 68) C kd_39 dX2_build_68 ?_
        refine g_iload_n (pc := 71) C dX2_build_71 rfl 1 rfl ?_
        refine g_iast (pc := 72) C kd_40 dX2_build_72 ?_
        refine g_ltM (fun M3 => ?_)
        refine g_aload_n (pc := 73) C dX2_build_73 rfl 0 rfl ?_
        refine gf_X2_15 (pc := 74) (u := 41) C kd_39 rfl dX2_build_74 ?_
        refine g_aload_n (pc := 77) C dX2_build_77 rfl 0 rfl ?_
        refine gf_X2_29 (pc := 78) C kd_39 dX2_build_78 ?_
        refine g_iload_n (pc := 81) C dX2_build_81 rfl 2 rfl ?_
        refine g_iast (pc := 82) C kd_41 dX2_build_82 ?_
        refine g_ltM (fun M4 => ?_)
        refine g_aload_n (pc := 83) C dX2_build_83 rfl 0 rfl ?_
        refine gf_X2_18 (pc := 84) (u := 42) C kd_39 rfl dX2_build_84 ?_
        refine g_aload_n (pc := 87) C dX2_build_87 rfl 0 rfl ?_
        refine gf_X2_29 (pc := 88) C kd_39 dX2_build_88 ?_
        refine g_iload_n (pc := 91) C dX2_build_91 rfl 3 rfl ?_
        refine g_iast (pc := 92) C kd_42 dX2_build_92 ?_
        refine g_ltM (fun M5 => ?_)
        refine g_aload_n (pc := 93) C dX2_build_93 rfl 0 rfl ?_
        refine g_dup (pc := 94) C dX2_build_94 rfl ?_
        refine gf_X2_29 (pc := 95) C kd_39 dX2_build_95 ?_
        refine g_iconst (pc := 98) C dX2_build_98 ic_iconst_1 ?_
        refine g_iadd (pc := 99) C dX2_build_99 ?_
        refine gp_X2_29 (pc := 100) C kd_39 dX2_build_100 ?_
        refine g_ltM (fun M6 => ?_)
        refine g_iinc (pc := 103) (j := 3) (lv' := [(3, .int (x3 + (1 : Int32))), (0, .ref (xad X 39)), (1, .int x1), (2, .int x2)]) C dX2_build_103 rfl (ii_1 _) (by decide) rfl ?_
        refine g_goto (pc := 106) (tgt := 33) C dX2_build_106 (by decide) ?_
        refine g_sub (lv' := [(0, .ref (xad X 39)), (1, .int x1), (2, .int x2), (3, .int (x3 + (1 : Int32)))]) [1, 2, 3, 0] rfl ?_
        exact hk33 x1 x2 (x3 + (1 : Int32)) M6

theorem g_X2_build_h33 {X : gX} (C : gC X cX2_build RX2 4 none 3 66) (F : Nat) (k7 : Int32 → gM → Option gM) (k20 : Int32 → Int32 → gM → Option gM) (hk7 : ∀ (x1 : Int32) (M : gM), G X (gQm X rvV rMV) 4 M [(0, .ref (xad X 39)), (1, .int x1)] [] 7 (k7 x1 M)) (hk20 : ∀ (x1 : Int32) (x2 : Int32) (M : gM), G X (gQm X rvV rMV) 4 M [(0, .ref (xad X 39)), (1, .int x1), (2, .int x2)] [] 20 (k20 x1 x2 M)) : ∀ (n : Nat) (x1 : Int32) (x2 : Int32) (x3 : Int32) (M : gM), G X (gQm X rvV rMV) 4 M [(0, .ref (xad X 39)), (1, .int x1), (2, .int x2), (3, .int x3)] [] 33 (f_X2_build_h33 F k7 k20 n x1 x2 x3 M) := by
  intro n
  induction n with
  | zero =>
    intro x1 x2 x3 M r hr
    have hr2 : (none : Option gM) = some r := hr
    cases hr2
  | succ n ih =>
    intro x1 x2 x3 M
    exact g_X2_build_h33_b C F k7 k20 hk7 hk20 _ ih x1 x2 x3 M
set_option maxRecDepth 100000 in
set_option maxHeartbeats 4000000 in
theorem g_X2_build_h20_b {X : gX} (C : gC X cX2_build RX2 4 none 3 66) (F : Nat) (k7 : Int32 → gM → Option gM) (hk7 : ∀ (x1 : Int32) (M : gM), G X (gQm X rvV rMV) 4 M [(0, .ref (xad X 39)), (1, .int x1)] [] 7 (k7 x1 M)) (k20 : Int32 → Int32 → gM → Option gM) (hk20 : ∀ (x1 : Int32) (x2 : Int32) (M : gM), G X (gQm X rvV rMV) 4 M [(0, .ref (xad X 39)), (1, .int x1), (2, .int x2)] [] 20 (k20 x1 x2 M)) (x1 : Int32) (x2 : Int32) (M : gM) : G X (gQm X rvV rMV) 4 M [(0, .ref (xad X 39)), (1, .int x1), (2, .int x2)] [] 20 (f_X2_build_h20_b F k7 k20 x1 x2 M) := by
  unfold f_X2_build_h20_b
  refine g_iload_n (pc := 20) C dX2_build_20 rfl 2 rfl ?_
  refine g_aload_n (pc := 21) C dX2_build_21 rfl 0 rfl ?_
  refine gf_X2_21 (pc := 22) (u := 3) C kd_39 rfl dX2_build_22 ?_
  refine gf_X2_33 (pc := 25) C kd_3 dX2_build_25 ?_
  refine g_icmp_ge (pc := 28) (tgt := 115) C dX2_build_28 (by decide) ?_ ?_
  · refine g_iinc (pc := 115) (j := 1) (lv' := [(1, .int (x1 + (1 : Int32))), (0, .ref (xad X 39)), (2, .int x2)]) C dX2_build_115 rfl (ii_1 _) (by decide) rfl ?_
    refine g_goto (pc := 118) (tgt := 7) C dX2_build_118 (by decide) ?_
    refine g_sub (lv' := [(0, .ref (xad X 39)), (1, .int (x1 + (1 : Int32)))]) [1, 0] rfl ?_
    exact hk7 (x1 + (1 : Int32)) M
  · refine g_iconst (pc := 31) C dX2_build_31 ic_iconst_0 ?_
    refine g_istore_n (pc := 32) (lv' := [(3, .int (0 : Int32)), (0, .ref (xad X 39)), (1, .int x1), (2, .int x2)]) C dX2_build_32 rfl (by decide) rfl ?_
    refine g_sub (lv' := [(0, .ref (xad X 39)), (1, .int x1), (2, .int x2), (3, .int (0 : Int32))]) [1, 2, 3, 0] rfl ?_
    exact g_X2_build_h33 C F k7 k20 hk7 hk20 F x1 x2 (0 : Int32) M

theorem g_X2_build_h20 {X : gX} (C : gC X cX2_build RX2 4 none 3 66) (F : Nat) (k7 : Int32 → gM → Option gM) (hk7 : ∀ (x1 : Int32) (M : gM), G X (gQm X rvV rMV) 4 M [(0, .ref (xad X 39)), (1, .int x1)] [] 7 (k7 x1 M)) : ∀ (n : Nat) (x1 : Int32) (x2 : Int32) (M : gM), G X (gQm X rvV rMV) 4 M [(0, .ref (xad X 39)), (1, .int x1), (2, .int x2)] [] 20 (f_X2_build_h20 F k7 n x1 x2 M) := by
  intro n
  induction n with
  | zero =>
    intro x1 x2 M r hr
    have hr2 : (none : Option gM) = some r := hr
    cases hr2
  | succ n ih =>
    intro x1 x2 M
    exact g_X2_build_h20_b C F k7 hk7 _ ih x1 x2 M
set_option maxRecDepth 100000 in
set_option maxHeartbeats 4000000 in
theorem g_X2_build_h7_b {X : gX} (C : gC X cX2_build RX2 4 none 3 66) (F : Nat) (k7 : Int32 → gM → Option gM) (hk7 : ∀ (x1 : Int32) (M : gM), G X (gQm X rvV rMV) 4 M [(0, .ref (xad X 39)), (1, .int x1)] [] 7 (k7 x1 M)) (x1 : Int32) (M : gM) : G X (gQm X rvV rMV) 4 M [(0, .ref (xad X 39)), (1, .int x1)] [] 7 (f_X2_build_h7_b F k7 x1 M) := by
  unfold f_X2_build_h7_b
  refine g_iload_n (pc := 7) C dX2_build_7 rfl 1 rfl ?_
  refine g_aload_n (pc := 8) C dX2_build_8 rfl 0 rfl ?_
  refine gf_X2_21 (pc := 9) (u := 3) C kd_39 rfl dX2_build_9 ?_
  refine gf_X2_33 (pc := 12) C kd_3 dX2_build_12 ?_
  refine g_icmp_ge (pc := 15) (tgt := 121) C dX2_build_15 (by decide) ?_ ?_
  · exact g_vret (pc := 121) C dX2_build_121 rfl rfl
  · refine g_iconst (pc := 18) C dX2_build_18 ic_iconst_0 ?_
    refine g_istore_n (pc := 19) (lv' := [(2, .int (0 : Int32)), (0, .ref (xad X 39)), (1, .int x1)]) C dX2_build_19 rfl (by decide) rfl ?_
    refine g_sub (lv' := [(0, .ref (xad X 39)), (1, .int x1), (2, .int (0 : Int32))]) [1, 2, 0] rfl ?_
    exact g_X2_build_h20 C F k7 hk7 F x1 (0 : Int32) M

theorem g_X2_build_h7 {X : gX} (C : gC X cX2_build RX2 4 none 3 66) (F : Nat) : ∀ (n : Nat) (x1 : Int32) (M : gM), G X (gQm X rvV rMV) 4 M [(0, .ref (xad X 39)), (1, .int x1)] [] 7 (f_X2_build_h7 F n x1 M) := by
  intro n
  induction n with
  | zero =>
    intro x1 M r hr
    have hr2 : (none : Option gM) = some r := hr
    cases hr2
  | succ n ih =>
    intro x1 M
    exact g_X2_build_h7_b C F _ ih x1 M
set_option maxRecDepth 100000 in
set_option maxHeartbeats 4000000 in
theorem c_X2_build (F : Nat)  (M : gM) : gCt yX2_build cX2_build 4 none 3 66 (fun ad K V => [.ref (ad 39)]) rvV rMV M (f_X2_build F M) := by
  refine g_met (y := yX2_build) (by decide +kernel) (fun _ _ _ => Nat.le_of_ble_eq_true rfl) (fun X C => ?_)
  show G X (gQm X rvV rMV) 4 M [(0, .ref (xad X 39))] [] 0 (f_X2_build F M)
  unfold f_X2_build
  refine g_aload_n (pc := 0) C dX2_build_0 rfl 0 rfl ?_
  refine g_iconst (pc := 1) C dX2_build_1 ic_iconst_0 ?_
  refine gp_X2_29 (pc := 2) C kd_39 dX2_build_2 ?_
  refine g_ltM (fun M1 => ?_)
  refine g_iconst (pc := 5) C dX2_build_5 ic_iconst_0 ?_
  refine g_istore_n (pc := 6) (lv' := [(1, .int (0 : Int32)), (0, .ref (xad X 39))]) C dX2_build_6 rfl (by decide) rfl ?_
  refine g_sub (lv' := [(0, .ref (xad X 39)), (1, .int (0 : Int32))]) [1, 0] rfl ?_
  exact g_X2_build_h7 C F F (0 : Int32) M1

/-! X2_priceOf -/
set_option maxRecDepth 100000 in
set_option maxHeartbeats 4000000 in
theorem c_X2_priceOf (a0 : Int32)  (M : gM) : gCt yX2_priceOf cX2_priceOf 2 (some .int) 1 22 (fun ad K V => [.ref (ad 39), .int a0]) rvR (rMR M) M (f_X2_priceOf a0 M) := by
  refine g_met (y := yX2_priceOf) (by decide +kernel) (fun _ _ _ => Nat.le_of_ble_eq_true rfl) (fun X C => ?_)
  show G X (gQm X rvR (rMR M)) 2 M [(0, .ref (xad X 39)), (1, .int a0)] [] 0 (f_X2_priceOf a0 M)
  unfold f_X2_priceOf
  refine g_aload_n (pc := 0) C dX2_priceOf_0 rfl 0 rfl ?_
  refine g_iload_n (pc := 1) C dX2_priceOf_1 rfl 1 rfl ?_
  refine g_aload_n (pc := 2) C dX2_priceOf_2 rfl 0 rfl ?_
  refine gf_X2_25 (pc := 3) (u := 26) C kd_39 rfl dX2_priceOf_3 ?_
  refine gf_X2_58 (pc := 6) (u := 28) C kd_26 rfl dX2_priceOf_6 ?_
  refine g_callR (pc := 9) C (g_runV (stk := []) C (c_X2_sumOf a0 28 10 kd_28 M) rfl rfl rfl kd_39 rfl wC_X2_sumOf wI_X2_sumOf wV_X2_sumOf wi_X2 wm_X2_54 hy_X2_sumOf (by decide) (Nat.le_of_ble_eq_true rfl) dX2_priceOf_9) (fun r1 => ?_)
  exact g_iret (pc := 12) C dX2_priceOf_12 rfl rfl

/-! X2_cheapestFor -/
set_option maxRecDepth 100000 in
set_option maxHeartbeats 4000000 in
theorem g_X2_cheapestFor_h35_b {X : gX} (C : gC X cX2_cheapestFor RX2 5 (some .int) 3 66) (F : Nat) (a0 : Int32) (M : gM) (k35 : Int32 → Int32 → Int32 → Option Int32) (hk35 : ∀ (x2 : Int32) (x3 : Int32) (x4 : Int32), G X (gQm X rvR (rMR M)) 5 M [(0, .ref (xad X 39)), (1, .int a0), (2, .int x2), (3, .int x3), (4, .int x4)] [] 35 (k35 x2 x3 x4)) (x2 : Int32) (x3 : Int32) (x4 : Int32) : G X (gQm X rvR (rMR M)) 5 M [(0, .ref (xad X 39)), (1, .int a0), (2, .int x2), (3, .int x3), (4, .int x4)] [] 35 (f_X2_cheapestFor_h35_b F a0 M k35 x2 x3 x4) := by
  unfold f_X2_cheapestFor_h35_b
  refine g_iload (pc := 35) C dX2_cheapestFor_35 4 rfl ?_
  refine g_aload_n (pc := 37) C dX2_cheapestFor_37 rfl 0 rfl ?_
  refine gf_X2_29 (pc := 38) C kd_39 dX2_cheapestFor_38 ?_
  refine g_icmp_ge (pc := 41) (tgt := 83) C dX2_cheapestFor_41 (by decide) ?_ ?_
  · refine g_iload_n (pc := 83) C dX2_cheapestFor_83 rfl 3 rfl ?_
    exact g_iret (pc := 84) C dX2_cheapestFor_84 rfl rfl
  · refine g_aload_n (pc := 44) C dX2_cheapestFor_44 rfl 0 rfl ?_
    refine g_iload (pc := 45) C dX2_cheapestFor_45 4 rfl ?_
    refine g_iload_n (pc := 47) C dX2_cheapestFor_47 rfl 1 rfl ?_
    refine g_iload_n (pc := 48) C dX2_cheapestFor_48 rfl 2 rfl ?_
    refine g_callR (pc := 49) C (g_runV (stk := []) C (c_X2_isFor x4 a0 x2 M) rfl rfl rfl kd_39 rfl wC_X2_isFor wI_X2_isFor wV_X2_isFor wi_X2 wm_X2_90 hy_X2_isFor (by decide) (Nat.le_of_ble_eq_true rfl) dX2_cheapestFor_49) (fun r3 => ?_)
    refine g_if_eq (pc := 52) (tgt := 77) C dX2_cheapestFor_52 (by decide) ?_ ?_
    · refine g_iinc (pc := 77) (j := 4) (lv' := [(4, .int (x4 + (1 : Int32))), (0, .ref (xad X 39)), (1, .int a0), (2, .int x2), (3, .int x3)]) C dX2_cheapestFor_77 rfl (ii_1 _) (by decide) rfl ?_
      refine g_goto (pc := 80) (tgt := 35) C dX2_cheapestFor_80 (by decide) ?_
      refine g_sub (lv' := [(0, .ref (xad X 39)), (1, .int a0), (2, .int x2), (3, .int x3), (4, .int (x4 + (1 : Int32)))]) [1, 2, 3, 4, 0] rfl ?_
      exact hk35 x2 x3 (x4 + (1 : Int32))
    · refine g_iload_n (pc := 55) C dX2_cheapestFor_55 rfl 3 rfl ?_
      refine g_iconst (pc := 56) C dX2_cheapestFor_56 ic_iconst_m1 ?_
      refine g_icmp_eq (pc := 57) (tgt := 74) C dX2_cheapestFor_57 (by decide) ?_ ?_
      · refine g_iload (pc := 74) C dX2_cheapestFor_74 4 rfl ?_
        refine g_istore_n (pc := 76) (lv' := [(3, .int x4), (0, .ref (xad X 39)), (1, .int a0), (2, .int x2), (4, .int x4)]) C dX2_cheapestFor_76 rfl (by decide) rfl ?_
        refine g_iinc (pc := 77) (j := 4) (lv' := [(4, .int (x4 + (1 : Int32))), (3, .int x4), (0, .ref (xad X 39)), (1, .int a0), (2, .int x2)]) C dX2_cheapestFor_77 rfl (ii_1 _) (by decide) rfl ?_
        refine g_goto (pc := 80) (tgt := 35) C dX2_cheapestFor_80 (by decide) ?_
        refine g_sub (lv' := [(0, .ref (xad X 39)), (1, .int a0), (2, .int x2), (3, .int x4), (4, .int (x4 + (1 : Int32)))]) [2, 3, 4, 1, 0] rfl ?_
        exact hk35 x2 x4 (x4 + (1 : Int32))
      · refine g_aload_n (pc := 60) C dX2_cheapestFor_60 rfl 0 rfl ?_
        refine g_iload (pc := 61) C dX2_cheapestFor_61 4 rfl ?_
        refine g_callR (pc := 63) C (g_runV (stk := []) C (c_X2_priceOf x4 M) rfl rfl rfl kd_39 rfl wC_X2_priceOf wI_X2_priceOf wV_X2_priceOf wi_X2 wm_X2_93 hy_X2_priceOf (by decide) (Nat.le_of_ble_eq_true rfl) dX2_cheapestFor_63) (fun r4 => ?_)
        refine g_aload_n (pc := 66) C dX2_cheapestFor_66 rfl 0 rfl ?_
        refine g_iload_n (pc := 67) C dX2_cheapestFor_67 rfl 3 rfl ?_
        refine g_callR (pc := 68) C (g_runV (stk := [.int r4]) C (c_X2_priceOf x3 M) rfl rfl rfl kd_39 rfl wC_X2_priceOf wI_X2_priceOf wV_X2_priceOf wi_X2 wm_X2_93 hy_X2_priceOf (by decide) (Nat.le_of_ble_eq_true rfl) dX2_cheapestFor_68) (fun r5 => ?_)
        refine g_icmp_ge (pc := 71) (tgt := 77) C dX2_cheapestFor_71 (by decide) ?_ ?_
        · refine g_iinc (pc := 77) (j := 4) (lv' := [(4, .int (x4 + (1 : Int32))), (0, .ref (xad X 39)), (1, .int a0), (2, .int x2), (3, .int x3)]) C dX2_cheapestFor_77 rfl (ii_1 _) (by decide) rfl ?_
          refine g_goto (pc := 80) (tgt := 35) C dX2_cheapestFor_80 (by decide) ?_
          refine g_sub (lv' := [(0, .ref (xad X 39)), (1, .int a0), (2, .int x2), (3, .int x3), (4, .int (x4 + (1 : Int32)))]) [1, 2, 3, 4, 0] rfl ?_
          exact hk35 x2 x3 (x4 + (1 : Int32))
        · refine g_iload (pc := 74) C dX2_cheapestFor_74 4 rfl ?_
          refine g_istore_n (pc := 76) (lv' := [(3, .int x4), (0, .ref (xad X 39)), (1, .int a0), (2, .int x2), (4, .int x4)]) C dX2_cheapestFor_76 rfl (by decide) rfl ?_
          refine g_iinc (pc := 77) (j := 4) (lv' := [(4, .int (x4 + (1 : Int32))), (3, .int x4), (0, .ref (xad X 39)), (1, .int a0), (2, .int x2)]) C dX2_cheapestFor_77 rfl (ii_1 _) (by decide) rfl ?_
          refine g_goto (pc := 80) (tgt := 35) C dX2_cheapestFor_80 (by decide) ?_
          refine g_sub (lv' := [(0, .ref (xad X 39)), (1, .int a0), (2, .int x2), (3, .int x4), (4, .int (x4 + (1 : Int32)))]) [2, 3, 4, 1, 0] rfl ?_
          exact hk35 x2 x4 (x4 + (1 : Int32))

theorem g_X2_cheapestFor_h35 {X : gX} (C : gC X cX2_cheapestFor RX2 5 (some .int) 3 66) (F : Nat) (a0 : Int32) (M : gM) : ∀ (n : Nat) (x2 : Int32) (x3 : Int32) (x4 : Int32), G X (gQm X rvR (rMR M)) 5 M [(0, .ref (xad X 39)), (1, .int a0), (2, .int x2), (3, .int x3), (4, .int x4)] [] 35 (f_X2_cheapestFor_h35 F a0 M n x2 x3 x4) := by
  intro n
  induction n with
  | zero =>
    intro x2 x3 x4 r hr
    have hr2 : (none : Option Int32) = some r := hr
    cases hr2
  | succ n ih =>
    intro x2 x3 x4
    exact g_X2_cheapestFor_h35_b C F a0 M _ ih x2 x3 x4
set_option maxRecDepth 100000 in
set_option maxHeartbeats 4000000 in
theorem c_X2_cheapestFor (F : Nat) (a0 : Int32)  (M : gM) : gCt yX2_cheapestFor cX2_cheapestFor 5 (some .int) 3 66 (fun ad K V => [.ref (ad 39), .int a0]) rvR (rMR M) M (f_X2_cheapestFor F a0 M) := by
  refine g_met (y := yX2_cheapestFor) (by decide +kernel) (fun _ _ _ => Nat.le_of_ble_eq_true rfl) (fun X C => ?_)
  show G X (gQm X rvR (rMR M)) 5 M [(0, .ref (xad X 39)), (1, .int a0)] [] 0 (f_X2_cheapestFor F a0 M)
  unfold f_X2_cheapestFor
  refine g_aload_n (pc := 0) C dX2_cheapestFor_0 rfl 0 rfl ?_
  refine gf_X2_21 (pc := 1) (u := 3) C kd_39 rfl dX2_cheapestFor_1 ?_
  refine g_iload_n (pc := 4) C dX2_cheapestFor_4 rfl 1 rfl ?_
  refine g_callR (pc := 5) C (g_runVN (stk := []) C (c_X7_hasScene 3 a0 kd_3 M) rfl rfl rfl kd_3 rfl wC_X7_hasScene wI_X7_hasScene wV_X7_hasScene wi_X7 wnm_X2_75 hy_X7_hasScene (by decide) (Nat.le_of_ble_eq_true rfl) dX2_cheapestFor_5) (fun r1 => ?_)
  refine g_if_ne (pc := 8) (tgt := 13) C dX2_cheapestFor_8 (by decide) ?_ ?_
  · refine g_aload_n (pc := 13) C dX2_cheapestFor_13 rfl 0 rfl ?_
    refine gf_X2_21 (pc := 14) (u := 3) C kd_39 rfl dX2_cheapestFor_14 ?_
    refine g_aload_n (pc := 17) C dX2_cheapestFor_17 rfl 0 rfl ?_
    refine gf_X2_21 (pc := 18) (u := 3) C kd_39 rfl dX2_cheapestFor_18 ?_
    refine gf_X2_84 (pc := 21) (u := 11) C kd_3 rfl dX2_cheapestFor_21 ?_
    refine g_iload_n (pc := 24) C dX2_cheapestFor_24 rfl 1 rfl ?_
    refine g_iald (pc := 25) C kd_11 dX2_cheapestFor_25 ?_
    refine g_callR (pc := 26) C (g_runVN (stk := []) C (c_X7_freeIn F 3 (M 11 a0.toNatClampNeg) kd_3 M) rfl rfl rfl kd_3 rfl wC_X7_freeIn wI_X7_freeIn wV_X7_freeIn wi_X7 wnm_X2_87 hy_X7_freeIn (by decide) (Nat.le_of_ble_eq_true rfl) dX2_cheapestFor_26) (fun r2 => ?_)
    refine g_istore_n (pc := 29) (lv' := [(2, .int r2), (0, .ref (xad X 39)), (1, .int a0)]) C dX2_cheapestFor_29 rfl (by decide) rfl ?_
    refine g_iconst (pc := 30) C dX2_cheapestFor_30 ic_iconst_m1 ?_
    refine g_istore_n (pc := 31) (lv' := [(3, .int (-1 : Int32)), (2, .int r2), (0, .ref (xad X 39)), (1, .int a0)]) C dX2_cheapestFor_31 rfl (by decide) rfl ?_
    refine g_iconst (pc := 32) C dX2_cheapestFor_32 ic_iconst_0 ?_
    refine g_istore (pc := 33) (lv' := [(4, .int (0 : Int32)), (3, .int (-1 : Int32)), (2, .int r2), (0, .ref (xad X 39)), (1, .int a0)]) C dX2_cheapestFor_33 (by decide) rfl ?_
    refine g_sub (lv' := [(0, .ref (xad X 39)), (1, .int a0), (2, .int r2), (3, .int (-1 : Int32)), (4, .int (0 : Int32))]) [3, 4, 2, 1, 0] rfl ?_
    exact g_X2_cheapestFor_h35 C F a0 M F r2 (-1 : Int32) (0 : Int32)
  · refine g_iconst (pc := 11) C dX2_cheapestFor_11 ic_iconst_m1 ?_
    exact g_iret (pc := 12) C dX2_cheapestFor_12 rfl rfl

/-! X2_widthOf -/
set_option maxRecDepth 100000 in
set_option maxHeartbeats 4000000 in
theorem c_X2_widthOf (a0 : Int32)  (M : gM) : gCt yX2_widthOf cX2_widthOf 2 (some .int) 1 22 (fun ad K V => [.ref (ad 39), .int a0]) rvR (rMR M) M (f_X2_widthOf a0 M) := by
  refine g_met (y := yX2_widthOf) (by decide +kernel) (fun _ _ _ => Nat.le_of_ble_eq_true rfl) (fun X C => ?_)
  show G X (gQm X rvR (rMR M)) 2 M [(0, .ref (xad X 39)), (1, .int a0)] [] 0 (f_X2_widthOf a0 M)
  unfold f_X2_widthOf
  refine g_aload_n (pc := 0) C dX2_widthOf_0 rfl 0 rfl ?_
  refine g_iload_n (pc := 1) C dX2_widthOf_1 rfl 1 rfl ?_
  refine g_aload_n (pc := 2) C dX2_widthOf_2 rfl 0 rfl ?_
  refine gf_X2_25 (pc := 3) (u := 26) C kd_39 rfl dX2_widthOf_3 ?_
  refine gf_X2_49 (pc := 6) (u := 27) C kd_26 rfl dX2_widthOf_6 ?_
  refine g_callR (pc := 9) C (g_runV (stk := []) C (c_X2_sumOf a0 27 10 kd_27 M) rfl rfl rfl kd_39 rfl wC_X2_sumOf wI_X2_sumOf wV_X2_sumOf wi_X2 wm_X2_54 hy_X2_sumOf (by decide) (Nat.le_of_ble_eq_true rfl) dX2_widthOf_9) (fun r1 => ?_)
  exact g_iret (pc := 12) C dX2_widthOf_12 rfl rfl

/-! X2_mayMarry -/
set_option maxRecDepth 100000 in
set_option maxHeartbeats 4000000 in
theorem c_X2_mayMarry (a0 : Int32) (a1 : Int32) (a2 : Int32)  (M : gM) : gCt yX2_mayMarry cX2_mayMarry 6 (some .boolean) 2 43 (fun ad K V => [.ref (ad 39), .int a0, .int a1, .int a2]) rvR (rMR M) M (f_X2_mayMarry a0 a1 a2 M) := by
  refine g_met (y := yX2_mayMarry) (by decide +kernel) (fun _ _ _ => Nat.le_of_ble_eq_true rfl) (fun X C => ?_)
  show G X (gQm X rvR (rMR M)) 6 M [(0, .ref (xad X 39)), (1, .int a0), (2, .int a1), (3, .int a2)] [] 0 (f_X2_mayMarry a0 a1 a2 M)
  unfold f_X2_mayMarry
  refine g_aload_n (pc := 0) C dX2_mayMarry_0 rfl 0 rfl ?_
  refine g_iload_n (pc := 1) C dX2_mayMarry_1 rfl 1 rfl ?_
  refine g_callR (pc := 2) C (g_runV (stk := []) C (c_X2_partsOf a0 M) rfl rfl rfl kd_39 rfl wC_X2_partsOf wI_X2_partsOf wV_X2_partsOf wi_X2 wm_X2_69 hy_X2_partsOf (by decide) (Nat.le_of_ble_eq_true rfl) dX2_mayMarry_2) (fun r1 => ?_)
  refine g_istore (pc := 5) (lv' := [(4, .int r1), (0, .ref (xad X 39)), (1, .int a0), (2, .int a1), (3, .int a2)]) C dX2_mayMarry_5 (by decide) rfl ?_
  refine g_aload_n (pc := 7) C dX2_mayMarry_7 rfl 1 rfl ?_
  refine g_iload_n (pc := 8) C dX2_mayMarry_8 rfl 3 rfl ?_
  refine g_callR (pc := 9) C (g_runV (stk := []) C (c_X2_partsOf a1 M) rfl rfl rfl kd_39 rfl wC_X2_partsOf wI_X2_partsOf wV_X2_partsOf wi_X2 wm_X2_69 hy_X2_partsOf (by decide) (Nat.le_of_ble_eq_true rfl) dX2_mayMarry_9) (fun r2 => ?_)
  refine g_istore (pc := 12) (lv' := [(5, .int r2), (4, .int r1), (0, .ref (xad X 39)), (1, .int a0), (2, .int a1), (3, .int a2)]) C dX2_mayMarry_12 (by decide) rfl ?_
  refine g_iload (pc := 14) C dX2_mayMarry_14 1 rfl ?_
  refine g_iload (pc := 16) C dX2_mayMarry_16 0 rfl ?_
  refine g_ior (pc := 18) C dX2_mayMarry_18 ?_
  refine g_iload_n (pc := 19) C dX2_mayMarry_19 rfl 5 rfl ?_
  refine g_iconst (pc := 20) C dX2_mayMarry_20 ic_iconst_m1 ?_
  refine g_ixor (pc := 21) C dX2_mayMarry_21 ?_
  refine g_iand (pc := 22) C dX2_mayMarry_22 ?_
  refine g_if_ne (pc := 23) (tgt := 51) C dX2_mayMarry_23 (by decide) ?_ ?_
  · refine g_iconst (pc := 51) C dX2_mayMarry_51 ic_iconst_0 ?_
    exact g_zretk (pc := 52) C rfl dX2_mayMarry_52 rfl rfl
  · refine g_iload (pc := 26) C dX2_mayMarry_26 1 rfl ?_
    refine g_iload (pc := 28) C dX2_mayMarry_28 0 rfl ?_
    refine g_iand (pc := 30) C dX2_mayMarry_30 ?_
    refine g_if_ne (pc := 31) (tgt := 51) C dX2_mayMarry_31 (by decide) ?_ ?_
    · refine g_iconst (pc := 51) C dX2_mayMarry_51 ic_iconst_0 ?_
      exact g_zretk (pc := 52) C rfl dX2_mayMarry_52 rfl rfl
    · refine g_aload_n (pc := 34) C dX2_mayMarry_34 rfl 2 rfl ?_
      refine g_iload_n (pc := 35) C dX2_mayMarry_35 rfl 3 rfl ?_
      refine g_callR (pc := 36) C (g_runV (stk := []) C (c_X2_widthOf a0 M) rfl rfl rfl kd_39 rfl wC_X2_widthOf wI_X2_widthOf wV_X2_widthOf wi_X2 wm_X2_61 hy_X2_widthOf (by decide) (Nat.le_of_ble_eq_true rfl) dX2_mayMarry_36) (fun r3 => ?_)
      refine g_aload_n (pc := 39) C dX2_mayMarry_39 rfl 2 rfl ?_
      refine g_iload_n (pc := 40) C dX2_mayMarry_40 rfl 4 rfl ?_
      refine g_callR (pc := 41) C (g_runV (stk := [.int r3]) C (c_X2_widthOf a1 M) rfl rfl rfl kd_39 rfl wC_X2_widthOf wI_X2_widthOf wV_X2_widthOf wi_X2 wm_X2_61 hy_X2_widthOf (by decide) (Nat.le_of_ble_eq_true rfl) dX2_mayMarry_41) (fun r4 => ?_)
      refine g_icmp_ne (pc := 44) (tgt := 51) C dX2_mayMarry_44 (by decide) ?_ ?_
      · refine g_iconst (pc := 51) C dX2_mayMarry_51 ic_iconst_0 ?_
        exact g_zretk (pc := 52) C rfl dX2_mayMarry_52 rfl rfl
      · refine g_iconst (pc := 47) C dX2_mayMarry_47 ic_iconst_1 ?_
        refine g_goto (pc := 48) (tgt := 52) C dX2_mayMarry_48 (by decide) ?_
        exact g_zretk (pc := 52) C rfl dX2_mayMarry_52 rfl rfl

/-! X2_widthsIf -/
set_option maxRecDepth 100000 in
set_option maxHeartbeats 4000000 in
theorem g_X2_widthsIf_b62 {X : gX} (C : gC X cX2_widthsIf RX2 6 (some .int) 2 43) (F : Nat) (a0 : Int32) (a1 : Int32) (M : gM) (k5 : Int32 → Int32 → Option Int32) (hk5 : ∀ (x3 : Int32) (x4 : Int32), G X (gQm X rvR (rMR M)) 6 M [(0, .ref (xad X 39)), (1, .int a0), (2, .int a1), (3, .int x3), (4, .int x4)] [] 5 (k5 x3 x4)) (x3 : Int32) (x4 : Int32) (x5 : Int32) : G X (gQm X rvR (rMR M)) 6 M [(0, .ref (xad X 39)), (1, .int a0), (2, .int a1), (3, .int x3), (4, .int x4), (5, .int x5)] [] 62 (f_X2_widthsIf_b62 F a0 a1 M k5 x3 x4 x5) := by
  unfold f_X2_widthsIf_b62
  refine g_iload_n (pc := 62) C dX2_widthsIf_62 rfl 3 rfl ?_
  refine g_iconst (pc := 63) C dX2_widthsIf_63 ic_iconst_1 ?_
  refine g_iload (pc := 64) C dX2_widthsIf_64 5 rfl ?_
  refine g_ishl (pc := 66) C dX2_widthsIf_66 ?_
  refine g_ior (pc := 67) C dX2_widthsIf_67 ?_
  refine g_lt (fun v3 => ?_)
  refine g_istore_n (pc := 68) (lv' := [(3, .int v3), (0, .ref (xad X 39)), (1, .int a0), (2, .int a1), (4, .int x4), (5, .int x5)]) C dX2_widthsIf_68 rfl (by decide) rfl ?_
  refine g_iinc (pc := 69) (j := 4) (lv' := [(4, .int (x4 + (1 : Int32))), (3, .int v3), (0, .ref (xad X 39)), (1, .int a0), (2, .int a1), (5, .int x5)]) C dX2_widthsIf_69 rfl (ii_1 _) (by decide) rfl ?_
  refine g_goto (pc := 72) (tgt := 5) C dX2_widthsIf_72 (by decide) ?_
  refine g_sub (lv' := [(0, .ref (xad X 39)), (1, .int a0), (2, .int a1), (3, .int v3), (4, .int (x4 + (1 : Int32)))]) [2, 3, 4, 1, 0] rfl ?_
  exact hk5 v3 (x4 + (1 : Int32))

set_option maxRecDepth 100000 in
set_option maxHeartbeats 4000000 in
theorem g_X2_widthsIf_h5_b {X : gX} (C : gC X cX2_widthsIf RX2 6 (some .int) 2 43) (F : Nat) (a0 : Int32) (a1 : Int32) (M : gM) (k5 : Int32 → Int32 → Option Int32) (hk5 : ∀ (x3 : Int32) (x4 : Int32), G X (gQm X rvR (rMR M)) 6 M [(0, .ref (xad X 39)), (1, .int a0), (2, .int a1), (3, .int x3), (4, .int x4)] [] 5 (k5 x3 x4)) (x3 : Int32) (x4 : Int32) : G X (gQm X rvR (rMR M)) 6 M [(0, .ref (xad X 39)), (1, .int a0), (2, .int a1), (3, .int x3), (4, .int x4)] [] 5 (f_X2_widthsIf_h5_b F a0 a1 M k5 x3 x4) := by
  unfold f_X2_widthsIf_h5_b
  refine g_iload (pc := 5) C dX2_widthsIf_5 4 rfl ?_
  refine g_aload_n (pc := 7) C dX2_widthsIf_7 rfl 0 rfl ?_
  refine gf_X2_29 (pc := 8) C kd_39 dX2_widthsIf_8 ?_
  refine g_icmp_ge (pc := 11) (tgt := 75) C dX2_widthsIf_11 (by decide) ?_ ?_
  · refine g_iload_n (pc := 75) C dX2_widthsIf_75 rfl 3 rfl ?_
    exact g_iret (pc := 76) C dX2_widthsIf_76 rfl rfl
  · refine g_aload_n (pc := 14) C dX2_widthsIf_14 rfl 0 rfl ?_
    refine g_iload (pc := 15) C dX2_widthsIf_15 4 rfl ?_
    refine g_callR (pc := 17) C (g_runV (stk := []) C (c_X2_widthOf x4 M) rfl rfl rfl kd_39 rfl wC_X2_widthOf wI_X2_widthOf wV_X2_widthOf wi_X2 wm_X2_61 hy_X2_widthOf (by decide) (Nat.le_of_ble_eq_true rfl) dX2_widthsIf_17) (fun r1 => ?_)
    refine g_istore (pc := 20) (lv' := [(5, .int r1), (0, .ref (xad X 39)), (1, .int a0), (2, .int a1), (3, .int x3), (4, .int x4)]) C dX2_widthsIf_20 (by decide) rfl ?_
    refine g_aload_n (pc := 22) C dX2_widthsIf_22 rfl 1 rfl ?_
    refine gf_X2_21 (pc := 23) (u := 3) C kd_39 rfl dX2_widthsIf_23 ?_
    refine g_iload_n (pc := 26) C dX2_widthsIf_26 rfl 2 rfl ?_
    refine g_callR (pc := 27) C (g_runVN (stk := []) C (c_X7_hasPart 3 a0 kd_3 M) rfl rfl rfl kd_3 rfl wC_X7_hasPart wI_X7_hasPart wV_X7_hasPart wi_X7 wnm_X2_65 hy_X7_hasPart (by decide) (Nat.le_of_ble_eq_true rfl) dX2_widthsIf_27) (fun r2 => ?_)
    refine g_if_eq (pc := 30) (tgt := 62) C dX2_widthsIf_30 (by decide) ?_ ?_
    · refine g_sub (lv' := [(0, .ref (xad X 39)), (1, .int a0), (2, .int a1), (3, .int x3), (4, .int x4), (5, .int r1)]) [1, 2, 3, 4, 5, 0] rfl ?_
      exact g_X2_widthsIf_b62 C F a0 a1 M k5 hk5 x3 x4 r1
    · refine g_aload_n (pc := 33) C dX2_widthsIf_33 rfl 1 rfl ?_
      refine g_iload (pc := 34) C dX2_widthsIf_34 5 rfl ?_
      refine g_callR (pc := 36) C (g_runV (stk := []) C (c_X2_partsOf x4 M) rfl rfl rfl kd_39 rfl wC_X2_partsOf wI_X2_partsOf wV_X2_partsOf wi_X2 wm_X2_69 hy_X2_partsOf (by decide) (Nat.le_of_ble_eq_true rfl) dX2_widthsIf_36) (fun r4 => ?_)
      refine g_iload_n (pc := 39) C dX2_widthsIf_39 rfl 2 rfl ?_
      refine g_callR (pc := 40) C (g_runSN (stk := []) C (c_X8_has r4 a0 M) rfl rfl rfl wC_X8_has wS_X8_has wi_X8 wnm_X2_72 hy_X8_has (by decide) (Nat.le_of_ble_eq_true rfl) dX2_widthsIf_40) (fun r5 => ?_)
      refine g_if_eq (pc := 43) (tgt := 62) C dX2_widthsIf_43 (by decide) ?_ ?_
      · refine g_sub (lv' := [(0, .ref (xad X 39)), (1, .int a0), (2, .int a1), (3, .int x3), (4, .int x4), (5, .int r1)]) [1, 2, 3, 4, 5, 0] rfl ?_
        exact g_X2_widthsIf_b62 C F a0 a1 M k5 hk5 x3 x4 r1
      · refine g_iload (pc := 46) C dX2_widthsIf_46 0 rfl ?_
        refine g_iload_n (pc := 48) C dX2_widthsIf_48 rfl 3 rfl ?_
        refine g_aload_n (pc := 49) C dX2_widthsIf_49 rfl 1 rfl ?_
        refine gf_X2_25 (pc := 50) (u := 26) C kd_39 rfl dX2_widthsIf_50 ?_
        refine gf_X2_49 (pc := 53) (u := 27) C kd_26 rfl dX2_widthsIf_53 ?_
        refine g_iload_n (pc := 56) C dX2_widthsIf_56 rfl 2 rfl ?_
        refine g_iald (pc := 57) C kd_27 dX2_widthsIf_57 ?_
        refine g_isub (pc := 58) C dX2_widthsIf_58 ?_
        refine g_iadd (pc := 59) C dX2_widthsIf_59 ?_
        refine g_lt (fun v6 => ?_)
        refine g_istore (pc := 60) (lv' := [(5, .int v6), (0, .ref (xad X 39)), (1, .int a0), (2, .int a1), (3, .int x3), (4, .int x4)]) C dX2_widthsIf_60 (by decide) rfl ?_
        refine g_sub (lv' := [(0, .ref (xad X 39)), (1, .int a0), (2, .int a1), (3, .int x3), (4, .int x4), (5, .int v6)]) [1, 2, 3, 4, 5, 0] rfl ?_
        exact g_X2_widthsIf_b62 C F a0 a1 M k5 hk5 x3 x4 v6

theorem g_X2_widthsIf_h5 {X : gX} (C : gC X cX2_widthsIf RX2 6 (some .int) 2 43) (F : Nat) (a0 : Int32) (a1 : Int32) (M : gM) : ∀ (n : Nat) (x3 : Int32) (x4 : Int32), G X (gQm X rvR (rMR M)) 6 M [(0, .ref (xad X 39)), (1, .int a0), (2, .int a1), (3, .int x3), (4, .int x4)] [] 5 (f_X2_widthsIf_h5 F a0 a1 M n x3 x4) := by
  intro n
  induction n with
  | zero =>
    intro x3 x4 r hr
    have hr2 : (none : Option Int32) = some r := hr
    cases hr2
  | succ n ih =>
    intro x3 x4
    exact g_X2_widthsIf_h5_b C F a0 a1 M _ ih x3 x4
set_option maxRecDepth 100000 in
set_option maxHeartbeats 4000000 in
theorem c_X2_widthsIf (F : Nat) (a0 : Int32) (a1 : Int32)  (M : gM) : gCt yX2_widthsIf cX2_widthsIf 6 (some .int) 2 43 (fun ad K V => [.ref (ad 39), .int a0, .int a1]) rvR (rMR M) M (f_X2_widthsIf F a0 a1 M) := by
  refine g_met (y := yX2_widthsIf) (by decide +kernel) (fun _ _ _ => Nat.le_of_ble_eq_true rfl) (fun X C => ?_)
  show G X (gQm X rvR (rMR M)) 6 M [(0, .ref (xad X 39)), (1, .int a0), (2, .int a1)] [] 0 (f_X2_widthsIf F a0 a1 M)
  unfold f_X2_widthsIf
  refine g_iconst (pc := 0) C dX2_widthsIf_0 ic_iconst_0 ?_
  refine g_istore_n (pc := 1) (lv' := [(3, .int (0 : Int32)), (0, .ref (xad X 39)), (1, .int a0), (2, .int a1)]) C dX2_widthsIf_1 rfl (by decide) rfl ?_
  refine g_iconst (pc := 2) C dX2_widthsIf_2 ic_iconst_0 ?_
  refine g_istore (pc := 3) (lv' := [(4, .int (0 : Int32)), (3, .int (0 : Int32)), (0, .ref (xad X 39)), (1, .int a0), (2, .int a1)]) C dX2_widthsIf_3 (by decide) rfl ?_
  refine g_sub (lv' := [(0, .ref (xad X 39)), (1, .int a0), (2, .int a1), (3, .int (0 : Int32)), (4, .int (0 : Int32))]) [2, 3, 4, 1, 0] rfl ?_
  exact g_X2_widthsIf_h5 C F a0 a1 M F (0 : Int32) (0 : Int32)

/-! X3_fail -/
set_option maxRecDepth 100000 in
set_option maxHeartbeats 4000000 in
theorem c_X3_fail (a0 : Int32) (a1 : Int32)  (M : gM) : gCt yX3_fail cX3_fail 3 none 0 0 (fun ad K V => [.ref (ad 25), .int a0, .int a1]) rvV rMV M (f_X3_fail a0 a1 M) := by
  refine g_met (y := yX3_fail) (by decide +kernel) (fun _ _ _ => Nat.le_of_ble_eq_true rfl) (fun X C => ?_)
  show G X (gQm X rvV rMV) 3 M [(0, .ref (xad X 25)), (1, .int a0), (2, .int a1)] [] 0 (f_X3_fail a0 a1 M)
  unfold f_X3_fail
  refine g_aload_n (pc := 0) C dX3_fail_0 rfl 0 rfl ?_
  refine gf_X3_31 (pc := 1) C kd_25 dX3_fail_1 ?_
  refine g_if_ne (pc := 4) (tgt := 17) C dX3_fail_4 (by decide) ?_ ?_
  · exact g_vret (pc := 17) C dX3_fail_17 rfl rfl
  · refine g_aload_n (pc := 7) C dX3_fail_7 rfl 0 rfl ?_
    refine g_iload_n (pc := 8) C dX3_fail_8 rfl 1 rfl ?_
    refine gp_X3_31 (pc := 9) C kd_25 dX3_fail_9 ?_
    refine g_ltM (fun M1 => ?_)
    refine g_aload_n (pc := 12) C dX3_fail_12 rfl 0 rfl ?_
    refine g_iload_n (pc := 13) C dX3_fail_13 rfl 2 rfl ?_
    refine gp_X3_19 (pc := 14) C kd_25 dX3_fail_14 ?_
    refine g_ltM (fun M2 => ?_)
    exact g_vret (pc := 17) C dX3_fail_17 rfl rfl

/-! X6_byteAt -/
set_option maxRecDepth 100000 in
set_option maxHeartbeats 4000000 in
theorem c_X6_byteAt (a0 : Int32)  (M : gM) : gCt yX6_byteAt cX6_byteAt 2 (some .int) 0 0 (fun ad K V => [.ref (ad 1), .int a0]) rvR (rMR M) M (f_X6_byteAt a0 M) := by
  refine g_met (y := yX6_byteAt) (by decide +kernel) (fun _ _ _ => Nat.le_of_ble_eq_true rfl) (fun X C => ?_)
  show G X (gQm X rvR (rMR M)) 2 M [(0, .ref (xad X 1)), (1, .int a0)] [] 0 (f_X6_byteAt a0 M)
  unfold f_X6_byteAt
  refine g_iload_n (pc := 0) C dX6_byteAt_0 rfl 1 rfl ?_
  refine g_if_lt (pc := 1) (tgt := 21) C dX6_byteAt_1 (by decide) ?_ ?_
  · refine g_iconst (pc := 21) C dX6_byteAt_21 ic_iconst_m1 ?_
    exact g_iret (pc := 22) C dX6_byteAt_22 rfl rfl
  · refine g_iload_n (pc := 4) C dX6_byteAt_4 rfl 1 rfl ?_
    refine g_aload_n (pc := 5) C dX6_byteAt_5 rfl 0 rfl ?_
    refine gf_X6_15 (pc := 6) C kd_1 dX6_byteAt_6 ?_
    refine g_icmp_ge (pc := 9) (tgt := 21) C dX6_byteAt_9 (by decide) ?_ ?_
    · refine g_iconst (pc := 21) C dX6_byteAt_21 ic_iconst_m1 ?_
      exact g_iret (pc := 22) C dX6_byteAt_22 rfl rfl
    · refine g_aload_n (pc := 12) C dX6_byteAt_12 rfl 0 rfl ?_
      refine gf_X6_9 (pc := 13) (u := 2) C kd_1 rfl dX6_byteAt_13 ?_
      refine g_iload_n (pc := 16) C dX6_byteAt_16 rfl 1 rfl ?_
      refine g_iald (pc := 17) C kd_2 dX6_byteAt_17 ?_
      refine g_goto (pc := 18) (tgt := 22) C dX6_byteAt_18 (by decide) ?_
      exact g_iret (pc := 22) C dX6_byteAt_22 rfl rfl

/-! X3_skipBlanks -/
set_option maxRecDepth 100000 in
set_option maxHeartbeats 4000000 in
theorem g_X3_skipBlanks_h0_b {X : gX} (C : gC X cX3_skipBlanks RX3 1 none 1 21) (F : Nat) (k0 : gM → Option gM) (hk0 : ∀ (M : gM), G X (gQm X rvV rMV) 1 M [(0, .ref (xad X 25))] [] 0 (k0 M)) (M : gM) : G X (gQm X rvV rMV) 1 M [(0, .ref (xad X 25))] [] 0 (f_X3_skipBlanks_h0_b F k0 M) := by
  unfold f_X3_skipBlanks_h0_b
  refine g_aload_n (pc := 0) C dX3_skipBlanks_0 rfl 0 rfl ?_
  refine gf_X3_28 (pc := 1) C kd_25 dX3_skipBlanks_1 ?_
  refine g_aload_n (pc := 4) C dX3_skipBlanks_4 rfl 0 rfl ?_
  refine gf_X3_9 (pc := 5) (u := 1) C kd_25 rfl dX3_skipBlanks_5 ?_
  refine gf_X3_37 (pc := 8) C kd_1 dX3_skipBlanks_8 ?_
  refine g_icmp_ge (pc := 11) (tgt := 43) C dX3_skipBlanks_11 (by decide) ?_ ?_
  · exact g_vret (pc := 43) C dX3_skipBlanks_43 rfl rfl
  · refine g_aload_n (pc := 14) C dX3_skipBlanks_14 rfl 0 rfl ?_
    refine gf_X3_9 (pc := 15) (u := 1) C kd_25 rfl dX3_skipBlanks_15 ?_
    refine g_aload_n (pc := 18) C dX3_skipBlanks_18 rfl 0 rfl ?_
    refine gf_X3_28 (pc := 19) C kd_25 dX3_skipBlanks_19 ?_
    refine g_callR (pc := 22) C (g_runVN (stk := []) C (c_X6_byteAt (M 25 2) M) rfl rfl rfl kd_1 rfl wC_X6_byteAt wI_X6_byteAt wV_X6_byteAt wi_X6 wnm_X3_122 hy_X6_byteAt (by decide) (Nat.le_of_ble_eq_true rfl) dX3_skipBlanks_22) (fun r1 => ?_)
    refine g_bipush (pc := 25) C dX3_skipBlanks_25 ic_bipush_32 ?_
    refine g_icmp_ne (pc := 27) (tgt := 43) C dX3_skipBlanks_27 (by decide) ?_ ?_
    · exact g_vret (pc := 43) C dX3_skipBlanks_43 rfl rfl
    · refine g_aload_n (pc := 30) C dX3_skipBlanks_30 rfl 0 rfl ?_
      refine g_dup (pc := 31) C dX3_skipBlanks_31 rfl ?_
      refine gf_X3_28 (pc := 32) C kd_25 dX3_skipBlanks_32 ?_
      refine g_iconst (pc := 35) C dX3_skipBlanks_35 ic_iconst_1 ?_
      refine g_iadd (pc := 36) C dX3_skipBlanks_36 ?_
      refine gp_X3_28 (pc := 37) C kd_25 dX3_skipBlanks_37 ?_
      refine g_ltM (fun M2 => ?_)
      refine g_goto (pc := 40) (tgt := 0) C dX3_skipBlanks_40 (by decide) ?_
      exact hk0 M2

theorem g_X3_skipBlanks_h0 {X : gX} (C : gC X cX3_skipBlanks RX3 1 none 1 21) (F : Nat) : ∀ (n : Nat) (M : gM), G X (gQm X rvV rMV) 1 M [(0, .ref (xad X 25))] [] 0 (f_X3_skipBlanks_h0 F n M) := by
  intro n
  induction n with
  | zero =>
    intro M r hr
    have hr2 : (none : Option gM) = some r := hr
    cases hr2
  | succ n ih =>
    intro M
    exact g_X3_skipBlanks_h0_b C F _ ih M
set_option maxRecDepth 100000 in
set_option maxHeartbeats 4000000 in
theorem c_X3_skipBlanks (F : Nat)  (M : gM) : gCt yX3_skipBlanks cX3_skipBlanks 1 none 1 21 (fun ad K V => [.ref (ad 25)]) rvV rMV M (f_X3_skipBlanks F M) := by
  refine g_met (y := yX3_skipBlanks) (by decide +kernel) (fun _ _ _ => Nat.le_of_ble_eq_true rfl) (fun X C => ?_)
  show G X (gQm X rvV rMV) 1 M [(0, .ref (xad X 25))] [] 0 (f_X3_skipBlanks F M)
  unfold f_X3_skipBlanks
  exact g_X3_skipBlanks_h0 C F F M

/-! X6_isFigure -/
set_option maxRecDepth 100000 in
set_option maxHeartbeats 4000000 in
theorem c_X6_isFigure (a0 : Int32)  (M : gM) : gCt yX6_isFigure cX6_isFigure 3 (some .boolean) 1 21 (fun ad K V => [.ref (ad 1), .int a0]) rvR (rMR M) M (f_X6_isFigure a0 M) := by
  refine g_met (y := yX6_isFigure) (by decide +kernel) (fun _ _ _ => Nat.le_of_ble_eq_true rfl) (fun X C => ?_)
  show G X (gQm X rvR (rMR M)) 3 M [(0, .ref (xad X 1)), (1, .int a0)] [] 0 (f_X6_isFigure a0 M)
  unfold f_X6_isFigure
  refine g_aload_n (pc := 0) C dX6_isFigure_0 rfl 0 rfl ?_
  refine g_iload_n (pc := 1) C dX6_isFigure_1 rfl 1 rfl ?_
  refine g_callR (pc := 2) C (g_runV (stk := []) C (c_X6_byteAt a0 M) rfl rfl rfl kd_1 rfl wC_X6_byteAt wI_X6_byteAt wV_X6_byteAt wi_X6 wm_X6_19 hy_X6_byteAt (by decide) (Nat.le_of_ble_eq_true rfl) dX6_isFigure_2) (fun r1 => ?_)
  refine g_istore_n (pc := 5) (lv' := [(2, .int r1), (0, .ref (xad X 1)), (1, .int a0)]) C dX6_isFigure_5 rfl (by decide) rfl ?_
  refine g_iload_n (pc := 6) C dX6_isFigure_6 rfl 0 rfl ?_
  refine g_bipush (pc := 7) C dX6_isFigure_7 ic_bipush_48 ?_
  refine g_icmp_lt (pc := 9) (tgt := 22) C dX6_isFigure_9 (by decide) ?_ ?_
  · refine g_iconst (pc := 22) C dX6_isFigure_22 ic_iconst_0 ?_
    exact g_zretk (pc := 23) C rfl dX6_isFigure_23 rfl rfl
  · refine g_iload_n (pc := 12) C dX6_isFigure_12 rfl 0 rfl ?_
    refine g_bipush (pc := 13) C dX6_isFigure_13 ic_bipush_57 ?_
    refine g_icmp_gt (pc := 15) (tgt := 22) C dX6_isFigure_15 (by decide) ?_ ?_
    · refine g_iconst (pc := 22) C dX6_isFigure_22 ic_iconst_0 ?_
      exact g_zretk (pc := 23) C rfl dX6_isFigure_23 rfl rfl
    · refine g_iconst (pc := 18) C dX6_isFigure_18 ic_iconst_1 ?_
      refine g_goto (pc := 19) (tgt := 23) C dX6_isFigure_19 (by decide) ?_
      exact g_zretk (pc := 23) C rfl dX6_isFigure_23 rfl rfl

/-! X3_readNumber -/
set_option maxRecDepth 100000 in
set_option maxHeartbeats 4000000 in
theorem g_X3_readNumber_b138 {X : gX} (C : gC X cX3_readNumber RX3 3 (some .int) 2 43) (F : Nat) (a0 : Int32) (x2 : Int32) (M : gM) : G X (gQm X rvW rMW) 3 M [(0, .ref (xad X 25)), (2, .int x2)] [] 138 (f_X3_readNumber_b138 F a0 x2 M) := by
  unfold f_X3_readNumber_b138
  refine g_aload_n (pc := 138) C dX3_readNumber_138 rfl 0 rfl ?_
  refine g_iconst (pc := 139) C dX3_readNumber_139 ic_iconst_2 ?_
  refine g_aload_n (pc := 140) C dX3_readNumber_140 rfl 0 rfl ?_
  refine gf_X3_47 (pc := 141) C kd_25 dX3_readNumber_141 ?_
  refine g_callV (pc := 144) C (g_runV (stk := []) C (c_X3_fail (2 : Int32) (M 25 3) M) rfl rfl rfl kd_25 rfl wC_X3_fail wI_X3_fail wV_X3_fail wi_X3 wm_X3_67 hy_X3_fail (by decide) (Nat.le_of_ble_eq_true rfl) dX3_readNumber_144) (fun r3 => ?_)
  refine g_iload_n (pc := 147) C dX3_readNumber_147 rfl 1 rfl ?_
  exact g_iret (pc := 148) C dX3_readNumber_148 rfl rfl

set_option maxRecDepth 100000 in
set_option maxHeartbeats 4000000 in
theorem g_X3_readNumber_b97 {X : gX} (C : gC X cX3_readNumber RX3 3 (some .int) 2 43) (F : Nat) (a0 : Int32) (x2 : Int32) (M : gM) : G X (gQm X rvW rMW) 3 M [(0, .ref (xad X 25)), (1, .int a0), (2, .int x2)] [] 97 (f_X3_readNumber_b97 F a0 x2 M) := by
  unfold f_X3_readNumber_b97
  refine g_aload_n (pc := 97) C dX3_readNumber_97 rfl 0 rfl ?_
  refine gf_X3_28 (pc := 98) C kd_25 dX3_readNumber_98 ?_
  refine g_aload_n (pc := 101) C dX3_readNumber_101 rfl 0 rfl ?_
  refine gf_X3_47 (pc := 102) C kd_25 dX3_readNumber_102 ?_
  refine g_icmp_ne (pc := 105) (tgt := 120) C dX3_readNumber_105 (by decide) ?_ ?_
  · refine g_aload_n (pc := 120) C dX3_readNumber_120 rfl 0 rfl ?_
    refine gf_X3_28 (pc := 121) C kd_25 dX3_readNumber_121 ?_
    refine g_aload_n (pc := 124) C dX3_readNumber_124 rfl 0 rfl ?_
    refine gf_X3_47 (pc := 125) C kd_25 dX3_readNumber_125 ?_
    refine g_isub (pc := 128) C dX3_readNumber_128 ?_
    refine g_iconst (pc := 129) C dX3_readNumber_129 ic_iconst_3 ?_
    refine g_icmp_gt (pc := 130) (tgt := 138) C dX3_readNumber_130 (by decide) ?_ ?_
    · refine g_sub (lv' := [(0, .ref (xad X 25)), (2, .int x2)]) [0, 2] rfl ?_
      exact g_X3_readNumber_b138 C F a0 x2 M
    · refine g_iload_n (pc := 133) C dX3_readNumber_133 rfl 2 rfl ?_
      refine g_iload_n (pc := 134) C dX3_readNumber_134 rfl 1 rfl ?_
      refine g_icmp_le (pc := 135) (tgt := 147) C dX3_readNumber_135 (by decide) ?_ ?_
      · refine g_iload_n (pc := 147) C dX3_readNumber_147 rfl 2 rfl ?_
        exact g_iret (pc := 148) C dX3_readNumber_148 rfl rfl
      · refine g_sub (lv' := [(0, .ref (xad X 25)), (2, .int x2)]) [0, 2] rfl ?_
        exact g_X3_readNumber_b138 C F a0 x2 M
  · refine g_aload_n (pc := 108) C dX3_readNumber_108 rfl 0 rfl ?_
    refine g_iconst (pc := 109) C dX3_readNumber_109 ic_iconst_1 ?_
    refine g_aload_n (pc := 110) C dX3_readNumber_110 rfl 0 rfl ?_
    refine gf_X3_47 (pc := 111) C kd_25 dX3_readNumber_111 ?_
    refine g_callV (pc := 114) C (g_runV (stk := []) C (c_X3_fail (1 : Int32) (M 25 3) M) rfl rfl rfl kd_25 rfl wC_X3_fail wI_X3_fail wV_X3_fail wi_X3 wm_X3_67 hy_X3_fail (by decide) (Nat.le_of_ble_eq_true rfl) dX3_readNumber_114) (fun r4 => ?_)
    refine g_goto (pc := 117) (tgt := 147) C dX3_readNumber_117 (by decide) ?_
    refine g_iload_n (pc := 147) C dX3_readNumber_147 rfl 2 rfl ?_
    exact g_iret (pc := 148) C dX3_readNumber_148 rfl rfl

set_option maxRecDepth 100000 in
set_option maxHeartbeats 4000000 in
theorem g_X3_readNumber_b84 {X : gX} (C : gC X cX3_readNumber RX3 3 (some .int) 2 43) (F : Nat) (a0 : Int32) (k23 : Int32 → gM → Option (Int32 × gM)) (hk23 : ∀ (x2 : Int32) (M : gM), G X (gQm X rvW rMW) 3 M [(0, .ref (xad X 25)), (1, .int a0), (2, .int x2)] [] 23 (k23 x2 M)) (x2 : Int32) (M : gM) : G X (gQm X rvW rMW) 3 M [(0, .ref (xad X 25)), (1, .int a0), (2, .int x2)] [] 84 (f_X3_readNumber_b84 F a0 k23 x2 M) := by
  unfold f_X3_readNumber_b84
  refine g_aload_n (pc := 84) C dX3_readNumber_84 rfl 0 rfl ?_
  refine g_dup (pc := 85) C dX3_readNumber_85 rfl ?_
  refine gf_X3_28 (pc := 86) C kd_25 dX3_readNumber_86 ?_
  refine g_iconst (pc := 89) C dX3_readNumber_89 ic_iconst_1 ?_
  refine g_iadd (pc := 90) C dX3_readNumber_90 ?_
  refine gp_X3_28 (pc := 91) C kd_25 dX3_readNumber_91 ?_
  refine g_ltM (fun M6 => ?_)
  refine g_goto (pc := 94) (tgt := 23) C dX3_readNumber_94 (by decide) ?_
  exact hk23 x2 M6

set_option maxRecDepth 100000 in
set_option maxHeartbeats 4000000 in
theorem g_X3_readNumber_h23_b {X : gX} (C : gC X cX3_readNumber RX3 3 (some .int) 2 43) (F : Nat) (a0 : Int32) (k23 : Int32 → gM → Option (Int32 × gM)) (hk23 : ∀ (x2 : Int32) (M : gM), G X (gQm X rvW rMW) 3 M [(0, .ref (xad X 25)), (1, .int a0), (2, .int x2)] [] 23 (k23 x2 M)) (x2 : Int32) (M : gM) : G X (gQm X rvW rMW) 3 M [(0, .ref (xad X 25)), (1, .int a0), (2, .int x2)] [] 23 (f_X3_readNumber_h23_b F a0 k23 x2 M) := by
  unfold f_X3_readNumber_h23_b
  refine g_aload_n (pc := 23) C dX3_readNumber_23 rfl 0 rfl ?_
  refine gf_X3_28 (pc := 24) C kd_25 dX3_readNumber_24 ?_
  refine g_aload_n (pc := 27) C dX3_readNumber_27 rfl 0 rfl ?_
  refine gf_X3_9 (pc := 28) (u := 1) C kd_25 rfl dX3_readNumber_28 ?_
  refine gf_X3_37 (pc := 31) C kd_1 dX3_readNumber_31 ?_
  refine g_icmp_ge (pc := 34) (tgt := 97) C dX3_readNumber_34 (by decide) ?_ ?_
  · exact g_X3_readNumber_b97 C F a0 x2 M
  · refine g_aload_n (pc := 37) C dX3_readNumber_37 rfl 0 rfl ?_
    refine gf_X3_9 (pc := 38) (u := 1) C kd_25 rfl dX3_readNumber_38 ?_
    refine g_aload_n (pc := 41) C dX3_readNumber_41 rfl 0 rfl ?_
    refine gf_X3_28 (pc := 42) C kd_25 dX3_readNumber_42 ?_
    refine g_callR (pc := 45) C (g_runVN (stk := []) C (c_X6_isFigure (M 25 2) M) rfl rfl rfl kd_1 rfl wC_X6_isFigure wI_X6_isFigure wV_X6_isFigure wi_X6 wnm_X3_119 hy_X6_isFigure (by decide) (Nat.le_of_ble_eq_true rfl) dX3_readNumber_45) (fun r5 => ?_)
    refine g_if_eq (pc := 48) (tgt := 97) C dX3_readNumber_48 (by decide) ?_ ?_
    · exact g_X3_readNumber_b97 C F a0 x2 M
    · refine g_aload_n (pc := 51) C dX3_readNumber_51 rfl 0 rfl ?_
      refine gf_X3_28 (pc := 52) C kd_25 dX3_readNumber_52 ?_
      refine g_aload_n (pc := 55) C dX3_readNumber_55 rfl 0 rfl ?_
      refine gf_X3_47 (pc := 56) C kd_25 dX3_readNumber_56 ?_
      refine g_isub (pc := 59) C dX3_readNumber_59 ?_
      refine g_iconst (pc := 60) C dX3_readNumber_60 ic_iconst_3 ?_
      refine g_icmp_ge (pc := 61) (tgt := 84) C dX3_readNumber_61 (by decide) ?_ ?_
      · exact g_X3_readNumber_b84 C F a0 k23 hk23 x2 M
      · refine g_iload_n (pc := 64) C dX3_readNumber_64 rfl 2 rfl ?_
        refine g_bipush (pc := 65) C dX3_readNumber_65 ic_bipush_10 ?_
        refine g_imul (pc := 67) C dX3_readNumber_67 ?_
        refine g_aload_n (pc := 68) C dX3_readNumber_68 rfl 0 rfl ?_
        refine gf_X3_9 (pc := 69) (u := 1) C kd_25 rfl dX3_readNumber_69 ?_
        refine g_aload_n (pc := 72) C dX3_readNumber_72 rfl 0 rfl ?_
        refine gf_X3_28 (pc := 73) C kd_25 dX3_readNumber_73 ?_
        refine g_callR (pc := 76) C (g_runVN (stk := [.int (x2 * (10 : Int32))]) C (c_X6_byteAt (M 25 2) M) rfl rfl rfl kd_1 rfl wC_X6_byteAt wI_X6_byteAt wV_X6_byteAt wi_X6 wnm_X3_122 hy_X6_byteAt (by decide) (Nat.le_of_ble_eq_true rfl) dX3_readNumber_76) (fun r7 => ?_)
        refine g_iadd (pc := 79) C dX3_readNumber_79 ?_
        refine g_bipush (pc := 80) C dX3_readNumber_80 ic_bipush_48 ?_
        refine g_isub (pc := 82) C dX3_readNumber_82 ?_
        refine g_lt (fun v8 => ?_)
        refine g_istore_n (pc := 83) (lv' := [(2, .int v8), (0, .ref (xad X 25)), (1, .int a0)]) C dX3_readNumber_83 rfl (by decide) rfl ?_
        refine g_sub (lv' := [(0, .ref (xad X 25)), (1, .int a0), (2, .int v8)]) [1, 2, 0] rfl ?_
        exact g_X3_readNumber_b84 C F a0 k23 hk23 v8 M

theorem g_X3_readNumber_h23 {X : gX} (C : gC X cX3_readNumber RX3 3 (some .int) 2 43) (F : Nat) (a0 : Int32) : ∀ (n : Nat) (x2 : Int32) (M : gM), G X (gQm X rvW rMW) 3 M [(0, .ref (xad X 25)), (1, .int a0), (2, .int x2)] [] 23 (f_X3_readNumber_h23 F a0 n x2 M) := by
  intro n
  induction n with
  | zero =>
    intro x2 M r hr
    have hr2 : (none : Option (Int32 × gM)) = some r := hr
    cases hr2
  | succ n ih =>
    intro x2 M
    exact g_X3_readNumber_h23_b C F a0 _ ih x2 M
set_option maxRecDepth 100000 in
set_option maxHeartbeats 4000000 in
theorem c_X3_readNumber (F : Nat) (a0 : Int32)  (M : gM) : gCt yX3_readNumber cX3_readNumber 3 (some .int) 2 43 (fun ad K V => [.ref (ad 25), .int a0]) rvW rMW M (f_X3_readNumber F a0 M) := by
  refine g_met (y := yX3_readNumber) (by decide +kernel) (fun _ _ _ => Nat.le_of_ble_eq_true rfl) (fun X C => ?_)
  show G X (gQm X rvW rMW) 3 M [(0, .ref (xad X 25)), (1, .int a0)] [] 0 (f_X3_readNumber F a0 M)
  unfold f_X3_readNumber
  refine g_aload_n (pc := 0) C dX3_readNumber_0 rfl 0 rfl ?_
  refine gf_X3_31 (pc := 1) C kd_25 dX3_readNumber_1 ?_
  refine g_if_eq (pc := 4) (tgt := 9) C dX3_readNumber_4 (by decide) ?_ ?_
  · refine g_aload_n (pc := 9) C dX3_readNumber_9 rfl 0 rfl ?_
    refine g_callV (pc := 10) C (g_runV (stk := []) C (c_X3_skipBlanks F M) rfl rfl rfl kd_25 rfl wC_X3_skipBlanks wI_X3_skipBlanks wV_X3_skipBlanks wi_X3 wm_X3_34 hy_X3_skipBlanks (by decide) (Nat.le_of_ble_eq_true rfl) dX3_readNumber_10) (fun r1 => ?_)
    refine g_aload_n (pc := 13) C dX3_readNumber_13 rfl 0 rfl ?_
    refine g_aload_n (pc := 14) C dX3_readNumber_14 rfl 0 rfl ?_
    refine gf_X3_28 (pc := 15) C kd_25 dX3_readNumber_15 ?_
    refine gp_X3_47 (pc := 18) C kd_25 dX3_readNumber_18 ?_
    refine g_ltM (fun M2 => ?_)
    refine g_iconst (pc := 21) C dX3_readNumber_21 ic_iconst_0 ?_
    refine g_istore_n (pc := 22) (lv' := [(2, .int (0 : Int32)), (0, .ref (xad X 25)), (1, .int a0)]) C dX3_readNumber_22 rfl (by decide) rfl ?_
    refine g_sub (lv' := [(0, .ref (xad X 25)), (1, .int a0), (2, .int (0 : Int32))]) [1, 2, 0] rfl ?_
    exact g_X3_readNumber_h23 C F a0 F (0 : Int32) M2
  · refine g_iconst (pc := 7) C dX3_readNumber_7 ic_iconst_0 ?_
    exact g_iret (pc := 8) C dX3_readNumber_8 rfl rfl

/-! X3_readEnd -/
set_option maxRecDepth 100000 in
set_option maxHeartbeats 4000000 in
theorem c_X3_readEnd (F : Nat)  (M : gM) : gCt yX3_readEnd cX3_readEnd 1 none 2 41 (fun ad K V => [.ref (ad 25)]) rvV rMV M (f_X3_readEnd F M) := by
  refine g_met (y := yX3_readEnd) (by decide +kernel) (fun _ _ _ => Nat.le_of_ble_eq_true rfl) (fun X C => ?_)
  show G X (gQm X rvV rMV) 1 M [(0, .ref (xad X 25))] [] 0 (f_X3_readEnd F M)
  unfold f_X3_readEnd
  refine g_aload_n (pc := 0) C dX3_readEnd_0 rfl 0 rfl ?_
  refine gf_X3_31 (pc := 1) C kd_25 dX3_readEnd_1 ?_
  refine g_if_eq (pc := 4) (tgt := 8) C dX3_readEnd_4 (by decide) ?_ ?_
  · refine g_aload_n (pc := 8) C dX3_readEnd_8 rfl 0 rfl ?_
    refine g_callV (pc := 9) C (g_runV (stk := []) C (c_X3_skipBlanks F M) rfl rfl rfl kd_25 rfl wC_X3_skipBlanks wI_X3_skipBlanks wV_X3_skipBlanks wi_X3 wm_X3_34 hy_X3_skipBlanks (by decide) (Nat.le_of_ble_eq_true rfl) dX3_readEnd_9) (fun r1 => ?_)
    refine g_aload_n (pc := 12) C dX3_readEnd_12 rfl 0 rfl ?_
    refine gf_X3_9 (pc := 13) (u := 1) C kd_25 rfl dX3_readEnd_13 ?_
    refine g_aload_n (pc := 16) C dX3_readEnd_16 rfl 0 rfl ?_
    refine gf_X3_28 (pc := 17) C kd_25 dX3_readEnd_17 ?_
    refine g_callR (pc := 20) C (g_runVN (stk := []) C (c_X6_byteAt (r1 25 2) r1) rfl rfl rfl kd_1 rfl wC_X6_byteAt wI_X6_byteAt wV_X6_byteAt wi_X6 wnm_X3_122 hy_X6_byteAt (by decide) (Nat.le_of_ble_eq_true rfl) dX3_readEnd_20) (fun r2 => ?_)
    refine g_bipush (pc := 23) C dX3_readEnd_23 ic_bipush_59 ?_
    refine g_icmp_ne (pc := 25) (tgt := 41) C dX3_readEnd_25 (by decide) ?_ ?_
    · refine g_aload_n (pc := 41) C dX3_readEnd_41 rfl 0 rfl ?_
      refine g_iconst (pc := 42) C dX3_readEnd_42 ic_iconst_1 ?_
      refine g_aload_n (pc := 43) C dX3_readEnd_43 rfl 0 rfl ?_
      refine gf_X3_28 (pc := 44) C kd_25 dX3_readEnd_44 ?_
      refine g_callV (pc := 47) C (g_runV (stk := []) C (c_X3_fail (1 : Int32) (r1 25 2) r1) rfl rfl rfl kd_25 rfl wC_X3_fail wI_X3_fail wV_X3_fail wi_X3 wm_X3_67 hy_X3_fail (by decide) (Nat.le_of_ble_eq_true rfl) dX3_readEnd_47) (fun r3 => ?_)
      exact g_vret (pc := 50) C dX3_readEnd_50 rfl rfl
    · refine g_aload_n (pc := 28) C dX3_readEnd_28 rfl 0 rfl ?_
      refine g_dup (pc := 29) C dX3_readEnd_29 rfl ?_
      refine gf_X3_28 (pc := 30) C kd_25 dX3_readEnd_30 ?_
      refine g_iconst (pc := 33) C dX3_readEnd_33 ic_iconst_1 ?_
      refine g_iadd (pc := 34) C dX3_readEnd_34 ?_
      refine gp_X3_28 (pc := 35) C kd_25 dX3_readEnd_35 ?_
      refine g_ltM (fun M4 => ?_)
      refine g_goto (pc := 38) (tgt := 50) C dX3_readEnd_38 (by decide) ?_
      exact g_vret (pc := 50) C dX3_readEnd_50 rfl rfl
  · exact g_vret (pc := 7) C dX3_readEnd_7 rfl rfl

/-! X7_addClash -/
set_option maxRecDepth 100000 in
set_option maxHeartbeats 4000000 in
theorem c_X7_addClash (t : Nat) (a0 : Int32) (a1 : Int32) (ht : kd t = gKo 7) (M : gM) : gCt yX7_addClash cX7_addClash 3 none 1 21 (fun ad K V => [.ref (ad t), .int a0, .int a1]) rvV rMV M (f_X7_addClash t a0 a1 M) := by
  refine g_met (y := yX7_addClash) (by decide +kernel) (fun _ _ _ => Nat.le_of_ble_eq_true rfl) (fun X C => ?_)
  show G X (gQm X rvV rMV) 3 M [(0, .ref (xad X t)), (1, .int a0), (2, .int a1)] [] 0 (f_X7_addClash t a0 a1 M)
  unfold f_X7_addClash
  refine g_aload_n (pc := 0) C dX7_addClash_0 rfl 0 rfl ?_
  refine g_iload_n (pc := 1) C dX7_addClash_1 rfl 1 rfl ?_
  refine g_callR (pc := 2) C (g_runV (stk := []) C (c_X7_hasPart t a0 ht M) rfl rfl rfl ht rfl wC_X7_hasPart wI_X7_hasPart wV_X7_hasPart wi_X7 wm_X7_46 hy_X7_hasPart (by decide) (Nat.le_of_ble_eq_true rfl) dX7_addClash_2) (fun r1 => ?_)
  refine g_if_eq (pc := 5) (tgt := 50) C dX7_addClash_5 (by decide) ?_ ?_
  · exact g_vret (pc := 50) C dX7_addClash_50 rfl rfl
  · refine g_aload_n (pc := 8) C dX7_addClash_8 rfl 0 rfl ?_
    refine g_iload_n (pc := 9) C dX7_addClash_9 rfl 2 rfl ?_
    refine g_callR (pc := 10) C (g_runV (stk := []) C (c_X7_hasPart t a1 ht M) rfl rfl rfl ht rfl wC_X7_hasPart wI_X7_hasPart wV_X7_hasPart wi_X7 wm_X7_46 hy_X7_hasPart (by decide) (Nat.le_of_ble_eq_true rfl) dX7_addClash_10) (fun r2 => ?_)
    refine g_if_eq (pc := 13) (tgt := 50) C dX7_addClash_13 (by decide) ?_ ?_
    · exact g_vret (pc := 50) C dX7_addClash_50 rfl rfl
    · refine g_aload_n (pc := 16) C dX7_addClash_16 rfl 0 rfl ?_
      refine gf_X7_30 (pc := 17) C ht rfl dX7_addClash_17 ?_
      refine g_iload_n (pc := 20) C dX7_addClash_20 rfl 1 rfl ?_
      refine g_dup2 (pc := 21) C dX7_addClash_21 rfl rfl ?_
      refine g_iald (pc := 22) C (kf_7_6 ht) dX7_addClash_22 ?_
      refine g_iconst (pc := 23) C dX7_addClash_23 ic_iconst_1 ?_
      refine g_iload_n (pc := 24) C dX7_addClash_24 rfl 2 rfl ?_
      refine g_ishl (pc := 25) C dX7_addClash_25 ?_
      refine g_ior (pc := 26) C dX7_addClash_26 ?_
      refine g_iast (pc := 27) C (kf_7_6 ht) dX7_addClash_27 ?_
      refine g_ltM (fun M3 => ?_)
      refine g_aload_n (pc := 28) C dX7_addClash_28 rfl 0 rfl ?_
      refine gf_X7_30 (pc := 29) C ht rfl dX7_addClash_29 ?_
      refine g_iload_n (pc := 32) C dX7_addClash_32 rfl 2 rfl ?_
      refine g_dup2 (pc := 33) C dX7_addClash_33 rfl rfl ?_
      refine g_iald (pc := 34) C (kf_7_6 ht) dX7_addClash_34 ?_
      refine g_iconst (pc := 35) C dX7_addClash_35 ic_iconst_1 ?_
      refine g_iload_n (pc := 36) C dX7_addClash_36 rfl 1 rfl ?_
      refine g_ishl (pc := 37) C dX7_addClash_37 ?_
      refine g_ior (pc := 38) C dX7_addClash_38 ?_
      refine g_iast (pc := 39) C (kf_7_6 ht) dX7_addClash_39 ?_
      refine g_ltM (fun M4 => ?_)
      refine g_aload_n (pc := 40) C dX7_addClash_40 rfl 0 rfl ?_
      refine g_dup (pc := 41) C dX7_addClash_41 rfl ?_
      refine gf_X7_53 (pc := 42) C ht dX7_addClash_42 ?_
      refine g_iconst (pc := 45) C dX7_addClash_45 ic_iconst_1 ?_
      refine g_iadd (pc := 46) C dX7_addClash_46 ?_
      refine gp_X7_53 (pc := 47) C ht dX7_addClash_47 ?_
      refine g_ltM (fun M5 => ?_)
      exact g_vret (pc := 50) C dX7_addClash_50 rfl rfl

/-! X3_readClash -/
set_option maxRecDepth 100000 in
set_option maxHeartbeats 4000000 in
theorem g_X3_readClash_b75 {X : gX} (C : gC X cX3_readClash RX3 3 none 3 65) (F : Nat) (x1 : Int32) (x2 : Int32) (M : gM) : G X (gQm X rvV rMV) 3 M [(0, .ref (xad X 25)), (1, .int x1), (2, .int x2)] [] 75 (f_X3_readClash_b75 F x1 x2 M) := by
  unfold f_X3_readClash_b75
  refine g_aload_n (pc := 75) C dX3_readClash_75 rfl 0 rfl ?_
  refine g_callV (pc := 76) C (g_runV (stk := []) C (c_X3_readEnd F M) rfl rfl rfl kd_25 rfl wC_X3_readEnd wI_X3_readEnd wV_X3_readEnd wi_X3 wm_X3_82 hy_X3_readEnd (by decide) (Nat.le_of_ble_eq_true rfl) dX3_readClash_76) (fun r6 => ?_)
  refine g_aload_n (pc := 79) C dX3_readClash_79 rfl 0 rfl ?_
  refine gf_X3_31 (pc := 80) C kd_25 dX3_readClash_80 ?_
  refine g_if_ne (pc := 83) (tgt := 95) C dX3_readClash_83 (by decide) ?_ ?_
  · exact g_vret (pc := 95) C dX3_readClash_95 rfl rfl
  · refine g_aload_n (pc := 86) C dX3_readClash_86 rfl 0 rfl ?_
    refine gf_X3_15 (pc := 87) (u := 14) C kd_25 rfl dX3_readClash_87 ?_
    refine g_iload_n (pc := 90) C dX3_readClash_90 rfl 1 rfl ?_
    refine g_iload_n (pc := 91) C dX3_readClash_91 rfl 2 rfl ?_
    refine g_callV (pc := 92) C (g_runVN (stk := []) C (c_X7_addClash 14 x1 x2 kd_14 r6) rfl rfl rfl kd_14 rfl wC_X7_addClash wI_X7_addClash wV_X7_addClash wi_X7 wnm_X3_99 hy_X7_addClash (by decide) (Nat.le_of_ble_eq_true rfl) dX3_readClash_92) (fun r7 => ?_)
    exact g_vret (pc := 95) C dX3_readClash_95 rfl rfl

set_option maxRecDepth 100000 in
set_option maxHeartbeats 4000000 in
theorem g_X3_readClash_b66 {X : gX} (C : gC X cX3_readClash RX3 3 none 3 65) (F : Nat) (x1 : Int32) (x2 : Int32) (M : gM) : G X (gQm X rvV rMV) 3 M [(0, .ref (xad X 25)), (1, .int x1), (2, .int x2)] [] 66 (f_X3_readClash_b66 F x1 x2 M) := by
  unfold f_X3_readClash_b66
  refine g_aload_n (pc := 66) C dX3_readClash_66 rfl 0 rfl ?_
  refine g_iconst (pc := 67) C dX3_readClash_67 ic_iconst_4 ?_
  refine g_aload_n (pc := 68) C dX3_readClash_68 rfl 0 rfl ?_
  refine gf_X3_47 (pc := 69) C kd_25 dX3_readClash_69 ?_
  refine g_callV (pc := 72) C (g_runV (stk := []) C (c_X3_fail (4 : Int32) (M 25 3) M) rfl rfl rfl kd_25 rfl wC_X3_fail wI_X3_fail wV_X3_fail wi_X3 wm_X3_67 hy_X3_fail (by decide) (Nat.le_of_ble_eq_true rfl) dX3_readClash_72) (fun r5 => ?_)
  exact g_X3_readClash_b75 C F x1 x2 r5

set_option maxRecDepth 100000 in
set_option maxHeartbeats 4000000 in
theorem g_X3_readClash_b21 {X : gX} (C : gC X cX3_readClash RX3 3 none 3 65) (F : Nat) (M : gM) : G X (gQm X rvV rMV) 3 M [(0, .ref (xad X 25))] [] 21 (f_X3_readClash_b21 F M) := by
  unfold f_X3_readClash_b21
  refine g_aload_n (pc := 21) C dX3_readClash_21 rfl 0 rfl ?_
  refine g_aload_n (pc := 22) C dX3_readClash_22 rfl 0 rfl ?_
  refine gf_X3_15 (pc := 23) (u := 14) C kd_25 rfl dX3_readClash_23 ?_
  refine gf_X3_71 (pc := 26) C kd_14 dX3_readClash_26 ?_
  refine g_iconst (pc := 29) C dX3_readClash_29 ic_iconst_1 ?_
  refine g_isub (pc := 30) C dX3_readClash_30 ?_
  refine g_callW (pc := 31) C (g_runV (stk := []) C (c_X3_readNumber F ((M 14 10) - (1 : Int32)) M) rfl rfl rfl kd_25 rfl wC_X3_readNumber wI_X3_readNumber wV_X3_readNumber wi_X3 wm_X3_78 hy_X3_readNumber (by decide) (Nat.le_of_ble_eq_true rfl) dX3_readClash_31) (fun r1 => ?_)
  refine g_lt (fun v2 => ?_)
  refine g_istore_n (pc := 34) (lv' := [(1, .int v2), (0, .ref (xad X 25))]) C dX3_readClash_34 rfl (by decide) rfl ?_
  refine g_aload_n (pc := 35) C dX3_readClash_35 rfl 1 rfl ?_
  refine g_aload_n (pc := 36) C dX3_readClash_36 rfl 1 rfl ?_
  refine gf_X3_15 (pc := 37) (u := 14) C kd_25 rfl dX3_readClash_37 ?_
  refine gf_X3_71 (pc := 40) C kd_14 dX3_readClash_40 ?_
  refine g_iconst (pc := 43) C dX3_readClash_43 ic_iconst_1 ?_
  refine g_isub (pc := 44) C dX3_readClash_44 ?_
  refine g_callW (pc := 45) C (g_runV (stk := []) C (c_X3_readNumber F ((r1.2 14 10) - (1 : Int32)) r1.2) rfl rfl rfl kd_25 rfl wC_X3_readNumber wI_X3_readNumber wV_X3_readNumber wi_X3 wm_X3_78 hy_X3_readNumber (by decide) (Nat.le_of_ble_eq_true rfl) dX3_readClash_45) (fun r3 => ?_)
  refine g_lt (fun v4 => ?_)
  refine g_istore_n (pc := 48) (lv' := [(2, .int v4), (1, .int v2), (0, .ref (xad X 25))]) C dX3_readClash_48 rfl (by decide) rfl ?_
  refine g_iload_n (pc := 49) C dX3_readClash_49 rfl 1 rfl ?_
  refine g_iload_n (pc := 50) C dX3_readClash_50 rfl 0 rfl ?_
  refine g_icmp_eq (pc := 51) (tgt := 66) C dX3_readClash_51 (by decide) ?_ ?_
  · refine g_sub (lv' := [(0, .ref (xad X 25)), (1, .int v2), (2, .int v4)]) [2, 1, 0] rfl ?_
    exact g_X3_readClash_b66 C F v2 v4 r3.2
  · refine g_aload_n (pc := 54) C dX3_readClash_54 rfl 2 rfl ?_
    refine gf_X3_15 (pc := 55) (u := 14) C kd_25 rfl dX3_readClash_55 ?_
    refine g_iload_n (pc := 58) C dX3_readClash_58 rfl 1 rfl ?_
    refine g_iload_n (pc := 59) C dX3_readClash_59 rfl 0 rfl ?_
    refine g_callR (pc := 60) C (g_runVN (stk := []) C (c_X7_isClash 14 v2 v4 kd_14 r3.2) rfl rfl rfl kd_14 rfl wC_X7_isClash wI_X7_isClash wV_X7_isClash wi_X7 wnm_X3_95 hy_X7_isClash (by decide) (Nat.le_of_ble_eq_true rfl) dX3_readClash_60) (fun r8 => ?_)
    refine g_if_eq (pc := 63) (tgt := 75) C dX3_readClash_63 (by decide) ?_ ?_
    · refine g_sub (lv' := [(0, .ref (xad X 25)), (1, .int v2), (2, .int v4)]) [2, 1, 0] rfl ?_
      exact g_X3_readClash_b75 C F v2 v4 r3.2
    · refine g_sub (lv' := [(0, .ref (xad X 25)), (1, .int v2), (2, .int v4)]) [2, 1, 0] rfl ?_
      exact g_X3_readClash_b66 C F v2 v4 r3.2

set_option maxRecDepth 100000 in
set_option maxHeartbeats 4000000 in
theorem c_X3_readClash (F : Nat)  (M : gM) : gCt yX3_readClash cX3_readClash 3 none 3 65 (fun ad K V => [.ref (ad 25)]) rvV rMV M (f_X3_readClash F M) := by
  refine g_met (y := yX3_readClash) (by decide +kernel) (fun _ _ _ => Nat.le_of_ble_eq_true rfl) (fun X C => ?_)
  show G X (gQm X rvV rMV) 3 M [(0, .ref (xad X 25))] [] 0 (f_X3_readClash F M)
  unfold f_X3_readClash
  refine g_aload_n (pc := 0) C dX3_readClash_0 rfl 0 rfl ?_
  refine gf_X3_15 (pc := 1) (u := 14) C kd_25 rfl dX3_readClash_1 ?_
  refine gf_X3_92 (pc := 4) C kd_14 dX3_readClash_4 ?_
  refine g_bipush (pc := 7) C dX3_readClash_7 ic_bipush_15 ?_
  refine g_icmp_lt (pc := 9) (tgt := 21) C dX3_readClash_9 (by decide) ?_ ?_
  · exact g_X3_readClash_b21 C F M
  · refine g_aload_n (pc := 12) C dX3_readClash_12 rfl 0 rfl ?_
    refine g_iconst (pc := 13) C dX3_readClash_13 ic_iconst_3 ?_
    refine g_aload_n (pc := 14) C dX3_readClash_14 rfl 0 rfl ?_
    refine gf_X3_47 (pc := 15) C kd_25 dX3_readClash_15 ?_
    refine g_callV (pc := 18) C (g_runV (stk := []) C (c_X3_fail (3 : Int32) (M 25 3) M) rfl rfl rfl kd_25 rfl wC_X3_fail wI_X3_fail wV_X3_fail wi_X3 wm_X3_67 hy_X3_fail (by decide) (Nat.le_of_ble_eq_true rfl) dX3_readClash_18) (fun r9 => ?_)
    exact g_X3_readClash_b21 C F r9

/-! X6_isLetter -/
set_option maxRecDepth 100000 in
set_option maxHeartbeats 4000000 in
theorem c_X6_isLetter (a0 : Int32)  (M : gM) : gCt yX6_isLetter cX6_isLetter 3 (some .boolean) 1 21 (fun ad K V => [.ref (ad 1), .int a0]) rvR (rMR M) M (f_X6_isLetter a0 M) := by
  refine g_met (y := yX6_isLetter) (by decide +kernel) (fun _ _ _ => Nat.le_of_ble_eq_true rfl) (fun X C => ?_)
  show G X (gQm X rvR (rMR M)) 3 M [(0, .ref (xad X 1)), (1, .int a0)] [] 0 (f_X6_isLetter a0 M)
  unfold f_X6_isLetter
  refine g_aload_n (pc := 0) C dX6_isLetter_0 rfl 0 rfl ?_
  refine g_iload_n (pc := 1) C dX6_isLetter_1 rfl 1 rfl ?_
  refine g_callR (pc := 2) C (g_runV (stk := []) C (c_X6_byteAt a0 M) rfl rfl rfl kd_1 rfl wC_X6_byteAt wI_X6_byteAt wV_X6_byteAt wi_X6 wm_X6_19 hy_X6_byteAt (by decide) (Nat.le_of_ble_eq_true rfl) dX6_isLetter_2) (fun r1 => ?_)
  refine g_istore_n (pc := 5) (lv' := [(2, .int r1), (0, .ref (xad X 1)), (1, .int a0)]) C dX6_isLetter_5 rfl (by decide) rfl ?_
  refine g_iload_n (pc := 6) C dX6_isLetter_6 rfl 0 rfl ?_
  refine g_bipush (pc := 7) C dX6_isLetter_7 ic_bipush_97 ?_
  refine g_icmp_lt (pc := 9) (tgt := 22) C dX6_isLetter_9 (by decide) ?_ ?_
  · refine g_iconst (pc := 22) C dX6_isLetter_22 ic_iconst_0 ?_
    exact g_zretk (pc := 23) C rfl dX6_isLetter_23 rfl rfl
  · refine g_iload_n (pc := 12) C dX6_isLetter_12 rfl 0 rfl ?_
    refine g_bipush (pc := 13) C dX6_isLetter_13 ic_bipush_122 ?_
    refine g_icmp_gt (pc := 15) (tgt := 22) C dX6_isLetter_15 (by decide) ?_ ?_
    · refine g_iconst (pc := 22) C dX6_isLetter_22 ic_iconst_0 ?_
      exact g_zretk (pc := 23) C rfl dX6_isLetter_23 rfl rfl
    · refine g_iconst (pc := 18) C dX6_isLetter_18 ic_iconst_1 ?_
      refine g_goto (pc := 19) (tgt := 23) C dX6_isLetter_19 (by decide) ?_
      exact g_zretk (pc := 23) C rfl dX6_isLetter_23 rfl rfl

