/-! X3_readWord -/
set_option maxRecDepth 100000 in
set_option maxHeartbeats 4000000 in
theorem g_X3_readWord_h12_b {X : gX} (C : gC X cX3_readWord RX3 1 none 2 43) (F : Nat) (k12 : gM → Option gM) (hk12 : ∀ (M : gM), G X (gQm X rvV rMV) 1 M [(0, .ref (xad X 25))] [] 12 (k12 M)) (M : gM) : G X (gQm X rvV rMV) 1 M [(0, .ref (xad X 25))] [] 12 (f_X3_readWord_h12_b F k12 M) := by
  unfold f_X3_readWord_h12_b
  refine g_aload_n (pc := 12) C dX3_readWord_12 rfl 0 rfl ?_
  refine gf_X3_28 (pc := 13) C kd_25 dX3_readWord_13 ?_
  refine g_aload_n (pc := 16) C dX3_readWord_16 rfl 0 rfl ?_
  refine gf_X3_9 (pc := 17) (u := 1) C kd_25 rfl dX3_readWord_17 ?_
  refine gf_X3_37 (pc := 20) C kd_1 dX3_readWord_20 ?_
  refine g_icmp_ge (pc := 23) (tgt := 53) C dX3_readWord_23 (by decide) ?_ ?_
  · exact g_vret (pc := 53) C dX3_readWord_53 rfl rfl
  · refine g_aload_n (pc := 26) C dX3_readWord_26 rfl 0 rfl ?_
    refine gf_X3_9 (pc := 27) (u := 1) C kd_25 rfl dX3_readWord_27 ?_
    refine g_aload_n (pc := 30) C dX3_readWord_30 rfl 0 rfl ?_
    refine gf_X3_28 (pc := 31) C kd_25 dX3_readWord_31 ?_
    refine g_callR (pc := 34) C (g_runVN (stk := []) C (c_X6_isLetter (M 25 2) M) rfl rfl rfl kd_1 rfl wC_X6_isLetter wI_X6_isLetter wV_X6_isLetter wi_X6 wnm_X3_109 hy_X6_isLetter (by decide) (Nat.le_of_ble_eq_true rfl) dX3_readWord_34) (fun r3 => ?_)
    refine g_if_eq (pc := 37) (tgt := 53) C dX3_readWord_37 (by decide) ?_ ?_
    · exact g_vret (pc := 53) C dX3_readWord_53 rfl rfl
    · refine g_aload_n (pc := 40) C dX3_readWord_40 rfl 0 rfl ?_
      refine g_dup (pc := 41) C dX3_readWord_41 rfl ?_
      refine gf_X3_28 (pc := 42) C kd_25 dX3_readWord_42 ?_
      refine g_iconst (pc := 45) C dX3_readWord_45 ic_iconst_1 ?_
      refine g_iadd (pc := 46) C dX3_readWord_46 ?_
      refine gp_X3_28 (pc := 47) C kd_25 dX3_readWord_47 ?_
      refine g_ltM (fun M4 => ?_)
      refine g_goto (pc := 50) (tgt := 12) C dX3_readWord_50 (by decide) ?_
      exact hk12 M4

theorem g_X3_readWord_h12 {X : gX} (C : gC X cX3_readWord RX3 1 none 2 43) (F : Nat) : ∀ (n : Nat) (M : gM), G X (gQm X rvV rMV) 1 M [(0, .ref (xad X 25))] [] 12 (f_X3_readWord_h12 F n M) := by
  intro n
  induction n with
  | zero =>
    intro M r hr
    have hr2 : (none : Option gM) = some r := hr
    cases hr2
  | succ n ih =>
    intro M
    exact g_X3_readWord_h12_b C F _ ih M
set_option maxRecDepth 100000 in
set_option maxHeartbeats 4000000 in
theorem c_X3_readWord (F : Nat)  (M : gM) : gCt yX3_readWord cX3_readWord 1 none 2 43 (fun ad K V => [.ref (ad 25)]) rvV rMV M (f_X3_readWord F M) := by
  refine g_met (y := yX3_readWord) (by decide +kernel) (fun _ _ _ => Nat.le_of_ble_eq_true rfl) (fun X C => ?_)
  show G X (gQm X rvV rMV) 1 M [(0, .ref (xad X 25))] [] 0 (f_X3_readWord F M)
  unfold f_X3_readWord
  refine g_aload_n (pc := 0) C dX3_readWord_0 rfl 0 rfl ?_
  refine g_callV (pc := 1) C (g_runV (stk := []) C (c_X3_skipBlanks F M) rfl rfl rfl kd_25 rfl wC_X3_skipBlanks wI_X3_skipBlanks wV_X3_skipBlanks wi_X3 wm_X3_34 hy_X3_skipBlanks (by decide) (Nat.le_of_ble_eq_true rfl) dX3_readWord_1) (fun r1 => ?_)
  refine g_aload_n (pc := 4) C dX3_readWord_4 rfl 0 rfl ?_
  refine g_aload_n (pc := 5) C dX3_readWord_5 rfl 0 rfl ?_
  refine gf_X3_28 (pc := 6) C kd_25 dX3_readWord_6 ?_
  refine gp_X3_47 (pc := 9) C kd_25 dX3_readWord_9 ?_
  refine g_ltM (fun M2 => ?_)
  exact g_X3_readWord_h12 C F F M2

/-! X6_stands -/
set_option maxRecDepth 100000 in
set_option maxHeartbeats 4000000 in
theorem g_X6_stands_h15_b {X : gX} (C : gC X cX6_stands RX6 5 (some .boolean) 4 85) (F : Nat) (a0 : Nat) (a1 : Int32) (a2 : Int32) (M : gM) (ha0 : a0 < 6) (k15 : Int32 → Option Int32) (hk15 : ∀ (x4 : Int32), G X (gQm X rvR (rMR M)) 5 M [(0, .ref (xad X 1)), (1, .ref (xK X a0)), (2, .int a1), (4, .int x4)] [] 15 (k15 x4)) (x4 : Int32) : G X (gQm X rvR (rMR M)) 5 M [(0, .ref (xad X 1)), (1, .ref (xK X a0)), (2, .int a1), (4, .int x4)] [] 15 (f_X6_stands_h15_b F a0 a1 a2 M k15 x4) := by
  unfold f_X6_stands_h15_b
  refine g_iload (pc := 15) C dX6_stands_15 3 rfl ?_
  refine g_aload_n (pc := 17) C dX6_stands_17 rfl 1 rfl ?_
  refine g_slen (pc := 18) (w := a0) C ha0 (by decide) (Nat.le_of_ble_eq_true rfl) wm_X6_23 dX6_stands_18 ?_
  refine g_icmp_ge (pc := 21) (tgt := 49) C dX6_stands_21 (by decide) ?_ ?_
  · refine g_iconst (pc := 49) C dX6_stands_49 ic_iconst_1 ?_
    exact g_zretk (pc := 50) C rfl dX6_stands_50 rfl rfl
  · refine g_aload_n (pc := 24) C dX6_stands_24 rfl 0 rfl ?_
    refine g_iload_n (pc := 25) C dX6_stands_25 rfl 2 rfl ?_
    refine g_iload (pc := 26) C dX6_stands_26 3 rfl ?_
    refine g_iadd (pc := 28) C dX6_stands_28 ?_
    refine g_callR (pc := 29) C (g_runV (stk := []) C (c_X6_byteAt (a1 + x4) M) rfl rfl rfl kd_1 rfl wC_X6_byteAt wI_X6_byteAt wV_X6_byteAt wi_X6 wm_X6_19 hy_X6_byteAt (by decide) (Nat.le_of_ble_eq_true rfl) dX6_stands_29) (fun r1 => ?_)
    refine g_aload_n (pc := 32) C dX6_stands_32 rfl 1 rfl ?_
    refine g_iload (pc := 33) C dX6_stands_33 3 rfl ?_
    refine g_schar (pc := 35) (w := a0) C ha0 (by decide) (Nat.le_of_ble_eq_true rfl) wm_X6_28 dX6_stands_35 ?_
    refine g_icmp_eq (pc := 38) (tgt := 43) C dX6_stands_38 (by decide) ?_ ?_
    · refine g_iinc (pc := 43) (j := 3) (lv' := [(4, .int (x4 + (1 : Int32))), (0, .ref (xad X 1)), (1, .ref (xK X a0)), (2, .int a1)]) C dX6_stands_43 rfl (ii_1 _) (by decide) rfl ?_
      refine g_goto (pc := 46) (tgt := 15) C dX6_stands_46 (by decide) ?_
      refine g_sub (lv' := [(0, .ref (xad X 1)), (1, .ref (xK X a0)), (2, .int a1), (4, .int (x4 + (1 : Int32)))]) [1, 2, 3, 0] rfl ?_
      exact hk15 (x4 + (1 : Int32))
    · refine g_iconst (pc := 41) C dX6_stands_41 ic_iconst_0 ?_
      exact g_zretk (pc := 42) C rfl dX6_stands_42 rfl rfl

theorem g_X6_stands_h15 {X : gX} (C : gC X cX6_stands RX6 5 (some .boolean) 4 85) (F : Nat) (a0 : Nat) (a1 : Int32) (a2 : Int32) (M : gM) (ha0 : a0 < 6) : ∀ (n : Nat) (x4 : Int32), G X (gQm X rvR (rMR M)) 5 M [(0, .ref (xad X 1)), (1, .ref (xK X a0)), (2, .int a1), (4, .int x4)] [] 15 (f_X6_stands_h15 F a0 a1 a2 M n x4) := by
  intro n
  induction n with
  | zero =>
    intro x4 r hr
    have hr2 : (none : Option Int32) = some r := hr
    cases hr2
  | succ n ih =>
    intro x4
    exact g_X6_stands_h15_b C F a0 a1 a2 M ha0 _ ih x4
set_option maxRecDepth 100000 in
set_option maxHeartbeats 4000000 in
theorem c_X6_stands (F : Nat) (a0 : Nat) (a1 : Int32) (a2 : Int32) (ha0 : a0 < 6) (M : gM) : gCt yX6_stands cX6_stands 5 (some .boolean) 4 85 (fun ad K V => [.ref (ad 1), .ref (K a0), .int a1, .int a2]) rvR (rMR M) M (f_X6_stands F a0 a1 a2 M) := by
  refine g_met (y := yX6_stands) (by decide +kernel) (fun _ _ _ => Nat.le_of_ble_eq_true rfl) (fun X C => ?_)
  show G X (gQm X rvR (rMR M)) 5 M [(0, .ref (xad X 1)), (1, .ref (xK X a0)), (2, .int a1), (3, .int a2)] [] 0 (f_X6_stands F a0 a1 a2 M)
  unfold f_X6_stands
  refine g_aload_n (pc := 0) C dX6_stands_0 rfl 1 rfl ?_
  refine g_slen (pc := 1) (w := a0) C ha0 (by decide) (Nat.le_of_ble_eq_true rfl) wm_X6_23 dX6_stands_1 ?_
  refine g_iload_n (pc := 4) C dX6_stands_4 rfl 3 rfl ?_
  refine g_iload_n (pc := 5) C dX6_stands_5 rfl 2 rfl ?_
  refine g_isub (pc := 6) C dX6_stands_6 ?_
  refine g_icmp_eq (pc := 7) (tgt := 12) C dX6_stands_7 (by decide) ?_ ?_
  · refine g_iconst (pc := 12) C dX6_stands_12 ic_iconst_0 ?_
    refine g_istore (pc := 13) (lv' := [(4, .int (0 : Int32)), (0, .ref (xad X 1)), (1, .ref (xK X a0)), (2, .int a1), (3, .int a2)]) C dX6_stands_13 (by decide) rfl ?_
    refine g_sub (lv' := [(0, .ref (xad X 1)), (1, .ref (xK X a0)), (2, .int a1), (4, .int (0 : Int32))]) [1, 2, 3, 0] rfl ?_
    exact g_X6_stands_h15 C F a0 a1 a2 M ha0 F (0 : Int32)
  · refine g_iconst (pc := 10) C dX6_stands_10 ic_iconst_0 ?_
    exact g_zretk (pc := 11) C rfl dX6_stands_11 rfl rfl

/-! X3_readKind -/
set_option maxRecDepth 100000 in
set_option maxHeartbeats 4000000 in
theorem c_X3_readKind (F : Nat)  (M : gM) : gCt yX3_readKind cX3_readKind 1 (some .int) 5 109 (fun ad K V => [.ref (ad 25)]) rvW rMW M (f_X3_readKind F M) := by
  refine g_met (y := yX3_readKind) (by decide +kernel) (fun _ _ _ => Nat.le_of_ble_eq_true rfl) (fun X C => ?_)
  show G X (gQm X rvW rMW) 1 M [(0, .ref (xad X 25))] [] 0 (f_X3_readKind F M)
  unfold f_X3_readKind
  refine g_aload_n (pc := 0) C dX3_readKind_0 rfl 0 rfl ?_
  refine gf_X3_31 (pc := 1) C kd_25 dX3_readKind_1 ?_
  refine g_if_eq (pc := 4) (tgt := 9) C dX3_readKind_4 (by decide) ?_ ?_
  · refine g_aload_n (pc := 9) C dX3_readKind_9 rfl 0 rfl ?_
    refine g_callV (pc := 10) C (g_runV (stk := []) C (c_X3_readWord F M) rfl rfl rfl kd_25 rfl wC_X3_readWord wI_X3_readWord wV_X3_readWord wi_X3 wm_X3_42 hy_X3_readWord (by decide) (Nat.le_of_ble_eq_true rfl) dX3_readKind_10) (fun r1 => ?_)
    refine g_aload_n (pc := 13) C dX3_readKind_13 rfl 0 rfl ?_
    refine gf_X3_9 (pc := 14) (u := 1) C kd_25 rfl dX3_readKind_14 ?_
    refine g_ldcS (pc := 17) (w := 3) C (by decide) rfl rfl dX3_readKind_17 ?_
    refine g_aload_n (pc := 19) C dX3_readKind_19 rfl 0 rfl ?_
    refine gf_X3_47 (pc := 20) C kd_25 dX3_readKind_20 ?_
    refine g_aload_n (pc := 23) C dX3_readKind_23 rfl 0 rfl ?_
    refine gf_X3_28 (pc := 24) C kd_25 dX3_readKind_24 ?_
    refine g_callR (pc := 27) C (g_runVN (stk := []) C (c_X6_stands F 3 (r1 25 3) (r1 25 2) (by decide : 3 < 6) r1) rfl rfl rfl kd_1 rfl wC_X6_stands wI_X6_stands wV_X6_stands wi_X6 wnm_X3_50 hy_X6_stands (by decide) (Nat.le_of_ble_eq_true rfl) dX3_readKind_27) (fun r2 => ?_)
    refine g_if_eq (pc := 30) (tgt := 35) C dX3_readKind_30 (by decide) ?_ ?_
    · refine g_aload_n (pc := 35) C dX3_readKind_35 rfl 0 rfl ?_
      refine gf_X3_9 (pc := 36) (u := 1) C kd_25 rfl dX3_readKind_36 ?_
      refine g_ldcS (pc := 39) (w := 4) C (by decide) rfl rfl dX3_readKind_39 ?_
      refine g_aload_n (pc := 41) C dX3_readKind_41 rfl 0 rfl ?_
      refine gf_X3_47 (pc := 42) C kd_25 dX3_readKind_42 ?_
      refine g_aload_n (pc := 45) C dX3_readKind_45 rfl 0 rfl ?_
      refine gf_X3_28 (pc := 46) C kd_25 dX3_readKind_46 ?_
      refine g_callR (pc := 49) C (g_runVN (stk := []) C (c_X6_stands F 4 (r1 25 3) (r1 25 2) (by decide : 4 < 6) r1) rfl rfl rfl kd_1 rfl wC_X6_stands wI_X6_stands wV_X6_stands wi_X6 wnm_X3_50 hy_X6_stands (by decide) (Nat.le_of_ble_eq_true rfl) dX3_readKind_49) (fun r3 => ?_)
      refine g_if_eq (pc := 52) (tgt := 57) C dX3_readKind_52 (by decide) ?_ ?_
      · refine g_aload_n (pc := 57) C dX3_readKind_57 rfl 0 rfl ?_
        refine gf_X3_9 (pc := 58) (u := 1) C kd_25 rfl dX3_readKind_58 ?_
        refine g_ldcS (pc := 61) (w := 5) C (by decide) rfl rfl dX3_readKind_61 ?_
        refine g_aload_n (pc := 63) C dX3_readKind_63 rfl 0 rfl ?_
        refine gf_X3_47 (pc := 64) C kd_25 dX3_readKind_64 ?_
        refine g_aload_n (pc := 67) C dX3_readKind_67 rfl 0 rfl ?_
        refine gf_X3_28 (pc := 68) C kd_25 dX3_readKind_68 ?_
        refine g_callR (pc := 71) C (g_runVN (stk := []) C (c_X6_stands F 5 (r1 25 3) (r1 25 2) (by decide : 5 < 6) r1) rfl rfl rfl kd_1 rfl wC_X6_stands wI_X6_stands wV_X6_stands wi_X6 wnm_X3_50 hy_X6_stands (by decide) (Nat.le_of_ble_eq_true rfl) dX3_readKind_71) (fun r4 => ?_)
        refine g_if_eq (pc := 74) (tgt := 79) C dX3_readKind_74 (by decide) ?_ ?_
        · refine g_aload_n (pc := 79) C dX3_readKind_79 rfl 0 rfl ?_
          refine g_iconst (pc := 80) C dX3_readKind_80 ic_iconst_1 ?_
          refine g_aload_n (pc := 81) C dX3_readKind_81 rfl 0 rfl ?_
          refine gf_X3_47 (pc := 82) C kd_25 dX3_readKind_82 ?_
          refine g_callV (pc := 85) C (g_runV (stk := []) C (c_X3_fail (1 : Int32) (r1 25 3) r1) rfl rfl rfl kd_25 rfl wC_X3_fail wI_X3_fail wV_X3_fail wi_X3 wm_X3_67 hy_X3_fail (by decide) (Nat.le_of_ble_eq_true rfl) dX3_readKind_85) (fun r5 => ?_)
          refine g_iconst (pc := 88) C dX3_readKind_88 ic_iconst_0 ?_
          exact g_iret (pc := 89) C dX3_readKind_89 rfl rfl
        · refine g_iconst (pc := 77) C dX3_readKind_77 ic_iconst_2 ?_
          exact g_iret (pc := 78) C dX3_readKind_78 rfl rfl
      · refine g_iconst (pc := 55) C dX3_readKind_55 ic_iconst_1 ?_
        exact g_iret (pc := 56) C dX3_readKind_56 rfl rfl
    · refine g_iconst (pc := 33) C dX3_readKind_33 ic_iconst_0 ?_
      exact g_iret (pc := 34) C dX3_readKind_34 rfl rfl
  · refine g_iconst (pc := 7) C dX3_readKind_7 ic_iconst_0 ?_
    exact g_iret (pc := 8) C dX3_readKind_8 rfl rfl

/-! X7_addPart -/
set_option maxRecDepth 100000 in
set_option maxHeartbeats 4000000 in
theorem c_X7_addPart (t : Nat) (a0 : Int32) (a1 : Int32) (a2 : Int32) (a3 : Int32) (ht : kd t = gKo 7) (M : gM) : gCt yX7_addPart cX7_addPart 5 none 0 0 (fun ad K V => [.ref (ad t), .int a0, .int a1, .int a2, .int a3]) rvV rMV M (f_X7_addPart t a0 a1 a2 a3 M) := by
  refine g_met (y := yX7_addPart) (by decide +kernel) (fun _ _ _ => Nat.le_of_ble_eq_true rfl) (fun X C => ?_)
  show G X (gQm X rvV rMV) 5 M [(0, .ref (xad X t)), (1, .int a0), (2, .int a1), (3, .int a2), (4, .int a3)] [] 0 (f_X7_addPart t a0 a1 a2 a3 M)
  unfold f_X7_addPart
  refine g_aload_n (pc := 0) C dX7_addPart_0 rfl 0 rfl ?_
  refine gf_X7_42 (pc := 1) C ht dX7_addPart_1 ?_
  refine g_bipush (pc := 4) C dX7_addPart_4 ic_bipush_10 ?_
  refine g_icmp_ge (pc := 6) (tgt := 70) C dX7_addPart_6 (by decide) ?_ ?_
  · exact g_vret (pc := 70) C dX7_addPart_70 rfl rfl
  · refine g_aload_n (pc := 9) C dX7_addPart_9 rfl 0 rfl ?_
    refine gf_X7_9 (pc := 10) C ht rfl dX7_addPart_10 ?_
    refine g_aload_n (pc := 13) C dX7_addPart_13 rfl 0 rfl ?_
    refine gf_X7_42 (pc := 14) C ht dX7_addPart_14 ?_
    refine g_iload_n (pc := 17) C dX7_addPart_17 rfl 1 rfl ?_
    refine g_iast (pc := 18) C (kf_7_0 ht) dX7_addPart_18 ?_
    refine g_ltM (fun M1 => ?_)
    refine g_aload_n (pc := 19) C dX7_addPart_19 rfl 0 rfl ?_
    refine gf_X7_15 (pc := 20) C ht rfl dX7_addPart_20 ?_
    refine g_aload_n (pc := 23) C dX7_addPart_23 rfl 0 rfl ?_
    refine gf_X7_42 (pc := 24) C ht dX7_addPart_24 ?_
    refine g_iload_n (pc := 27) C dX7_addPart_27 rfl 2 rfl ?_
    refine g_iast (pc := 28) C (kf_7_1 ht) dX7_addPart_28 ?_
    refine g_ltM (fun M2 => ?_)
    refine g_aload_n (pc := 29) C dX7_addPart_29 rfl 0 rfl ?_
    refine gf_X7_18 (pc := 30) C ht rfl dX7_addPart_30 ?_
    refine g_aload_n (pc := 33) C dX7_addPart_33 rfl 0 rfl ?_
    refine gf_X7_42 (pc := 34) C ht dX7_addPart_34 ?_
    refine g_iload_n (pc := 37) C dX7_addPart_37 rfl 3 rfl ?_
    refine g_iast (pc := 38) C (kf_7_2 ht) dX7_addPart_38 ?_
    refine g_ltM (fun M3 => ?_)
    refine g_aload_n (pc := 39) C dX7_addPart_39 rfl 0 rfl ?_
    refine gf_X7_21 (pc := 40) C ht rfl dX7_addPart_40 ?_
    refine g_aload_n (pc := 43) C dX7_addPart_43 rfl 0 rfl ?_
    refine gf_X7_42 (pc := 44) C ht dX7_addPart_44 ?_
    refine g_iload (pc := 47) C dX7_addPart_47 4 rfl ?_
    refine g_iast (pc := 49) C (kf_7_3 ht) dX7_addPart_49 ?_
    refine g_ltM (fun M4 => ?_)
    refine g_aload_n (pc := 50) C dX7_addPart_50 rfl 0 rfl ?_
    refine gf_X7_30 (pc := 51) C ht rfl dX7_addPart_51 ?_
    refine g_aload_n (pc := 54) C dX7_addPart_54 rfl 0 rfl ?_
    refine gf_X7_42 (pc := 55) C ht dX7_addPart_55 ?_
    refine g_iconst (pc := 58) C dX7_addPart_58 ic_iconst_0 ?_
    refine g_iast (pc := 59) C (kf_7_6 ht) dX7_addPart_59 ?_
    refine g_ltM (fun M5 => ?_)
    refine g_aload_n (pc := 60) C dX7_addPart_60 rfl 0 rfl ?_
    refine g_dup (pc := 61) C dX7_addPart_61 rfl ?_
    refine gf_X7_42 (pc := 62) C ht dX7_addPart_62 ?_
    refine g_iconst (pc := 65) C dX7_addPart_65 ic_iconst_1 ?_
    refine g_iadd (pc := 66) C dX7_addPart_66 ?_
    refine gp_X7_42 (pc := 67) C ht dX7_addPart_67 ?_
    refine g_ltM (fun M6 => ?_)
    exact g_vret (pc := 70) C dX7_addPart_70 rfl rfl

/-! X7_setHoursOfLatest -/
set_option maxRecDepth 100000 in
set_option maxHeartbeats 4000000 in
theorem c_X7_setHoursOfLatest (t : Nat) (a0 : Int32) (a1 : Int32) (ht : kd t = gKo 7) (M : gM) : gCt yX7_setHoursOfLatest cX7_setHoursOfLatest 3 none 1 21 (fun ad K V => [.ref (ad t), .int a0, .int a1]) rvV rMV M (f_X7_setHoursOfLatest t a0 a1 M) := by
  refine g_met (y := yX7_setHoursOfLatest) (by decide +kernel) (fun _ _ _ => Nat.le_of_ble_eq_true rfl) (fun X C => ?_)
  show G X (gQm X rvV rMV) 3 M [(0, .ref (xad X t)), (1, .int a0), (2, .int a1)] [] 0 (f_X7_setHoursOfLatest t a0 a1 M)
  unfold f_X7_setHoursOfLatest
  refine g_aload_n (pc := 0) C dX7_setHoursOfLatest_0 rfl 0 rfl ?_
  refine g_aload_n (pc := 1) C dX7_setHoursOfLatest_1 rfl 0 rfl ?_
  refine gf_X7_42 (pc := 2) C ht dX7_setHoursOfLatest_2 ?_
  refine g_iconst (pc := 5) C dX7_setHoursOfLatest_5 ic_iconst_1 ?_
  refine g_isub (pc := 6) C dX7_setHoursOfLatest_6 ?_
  refine g_callR (pc := 7) C (g_runV (stk := []) C (c_X7_hasPart t ((M t 10) - (1 : Int32)) ht M) rfl rfl rfl ht rfl wC_X7_hasPart wI_X7_hasPart wV_X7_hasPart wi_X7 wm_X7_46 hy_X7_hasPart (by decide) (Nat.le_of_ble_eq_true rfl) dX7_setHoursOfLatest_7) (fun r1 => ?_)
  refine g_if_eq (pc := 10) (tgt := 37) C dX7_setHoursOfLatest_10 (by decide) ?_ ?_
  · exact g_vret (pc := 37) C dX7_setHoursOfLatest_37 rfl rfl
  · refine g_aload_n (pc := 13) C dX7_setHoursOfLatest_13 rfl 0 rfl ?_
    refine gf_X7_24 (pc := 14) C ht rfl dX7_setHoursOfLatest_14 ?_
    refine g_aload_n (pc := 17) C dX7_setHoursOfLatest_17 rfl 0 rfl ?_
    refine gf_X7_42 (pc := 18) C ht dX7_setHoursOfLatest_18 ?_
    refine g_iconst (pc := 21) C dX7_setHoursOfLatest_21 ic_iconst_1 ?_
    refine g_isub (pc := 22) C dX7_setHoursOfLatest_22 ?_
    refine g_iload_n (pc := 23) C dX7_setHoursOfLatest_23 rfl 1 rfl ?_
    refine g_iast (pc := 24) C (kf_7_4 ht) dX7_setHoursOfLatest_24 ?_
    refine g_ltM (fun M2 => ?_)
    refine g_aload_n (pc := 25) C dX7_setHoursOfLatest_25 rfl 0 rfl ?_
    refine gf_X7_27 (pc := 26) C ht rfl dX7_setHoursOfLatest_26 ?_
    refine g_aload_n (pc := 29) C dX7_setHoursOfLatest_29 rfl 0 rfl ?_
    refine gf_X7_42 (pc := 30) C ht dX7_setHoursOfLatest_30 ?_
    refine g_iconst (pc := 33) C dX7_setHoursOfLatest_33 ic_iconst_1 ?_
    refine g_isub (pc := 34) C dX7_setHoursOfLatest_34 ?_
    refine g_iload_n (pc := 35) C dX7_setHoursOfLatest_35 rfl 2 rfl ?_
    refine g_iast (pc := 36) C (kf_7_5 ht) dX7_setHoursOfLatest_36 ?_
    refine g_ltM (fun M3 => ?_)
    exact g_vret (pc := 37) C dX7_setHoursOfLatest_37 rfl rfl

/-! X3_readPart -/
set_option maxRecDepth 100000 in
set_option maxHeartbeats 4000000 in
theorem g_X3_readPart_b79 {X : gX} (C : gC X cX3_readPart RX3 7 none 6 129) (F : Nat) (x1 : Int32) (x2 : Int32) (x3 : Int32) (x4 : Int32) (x5 : Int32) (x6 : Int32) (M : gM) : G X (gQm X rvV rMV) 7 M [(0, .ref (xad X 25)), (1, .int x1), (2, .int x2), (3, .int x3), (4, .int x4), (5, .int x5), (6, .int x6)] [] 79 (f_X3_readPart_b79 F x1 x2 x3 x4 x5 x6 M) := by
  unfold f_X3_readPart_b79
  refine g_aload_n (pc := 79) C dX3_readPart_79 rfl 0 rfl ?_
  refine g_callV (pc := 80) C (g_runV (stk := []) C (c_X3_readEnd F M) rfl rfl rfl kd_25 rfl wC_X3_readEnd wI_X3_readEnd wV_X3_readEnd wi_X3 wm_X3_82 hy_X3_readEnd (by decide) (Nat.le_of_ble_eq_true rfl) dX3_readPart_80) (fun r13 => ?_)
  refine g_aload_n (pc := 83) C dX3_readPart_83 rfl 0 rfl ?_
  refine gf_X3_31 (pc := 84) C kd_25 dX3_readPart_84 ?_
  refine g_if_ne (pc := 87) (tgt := 113) C dX3_readPart_87 (by decide) ?_ ?_
  · exact g_vret (pc := 113) C dX3_readPart_113 rfl rfl
  · refine g_aload_n (pc := 90) C dX3_readPart_90 rfl 0 rfl ?_
    refine gf_X3_15 (pc := 91) (u := 14) C kd_25 rfl dX3_readPart_91 ?_
    refine g_iload_n (pc := 94) C dX3_readPart_94 rfl 1 rfl ?_
    refine g_iload_n (pc := 95) C dX3_readPart_95 rfl 2 rfl ?_
    refine g_iload_n (pc := 96) C dX3_readPart_96 rfl 3 rfl ?_
    refine g_iload (pc := 97) C dX3_readPart_97 4 rfl ?_
    refine g_callV (pc := 99) C (g_runVN (stk := []) C (c_X7_addPart 14 x1 x2 x3 x4 kd_14 r13) rfl rfl rfl kd_14 rfl wC_X7_addPart wI_X7_addPart wV_X7_addPart wi_X7 wnm_X3_85 hy_X7_addPart (by decide) (Nat.le_of_ble_eq_true rfl) dX3_readPart_99) (fun r14 => ?_)
    refine g_aload_n (pc := 102) C dX3_readPart_102 rfl 0 rfl ?_
    refine gf_X3_15 (pc := 103) (u := 14) C kd_25 rfl dX3_readPart_103 ?_
    refine g_iload (pc := 106) C dX3_readPart_106 5 rfl ?_
    refine g_iload (pc := 108) C dX3_readPart_108 6 rfl ?_
    refine g_callV (pc := 110) C (g_runVN (stk := []) C (c_X7_setHoursOfLatest 14 x5 x6 kd_14 r14) rfl rfl rfl kd_14 rfl wC_X7_setHoursOfLatest wI_X7_setHoursOfLatest wV_X7_setHoursOfLatest wi_X7 wnm_X3_89 hy_X7_setHoursOfLatest (by decide) (Nat.le_of_ble_eq_true rfl) dX3_readPart_110) (fun r15 => ?_)
    exact g_vret (pc := 113) C dX3_readPart_113 rfl rfl

set_option maxRecDepth 100000 in
set_option maxHeartbeats 4000000 in
theorem g_X3_readPart_b21 {X : gX} (C : gC X cX3_readPart RX3 7 none 6 129) (F : Nat) (M : gM) : G X (gQm X rvV rMV) 7 M [(0, .ref (xad X 25))] [] 21 (f_X3_readPart_b21 F M) := by
  unfold f_X3_readPart_b21
  refine g_aload_n (pc := 21) C dX3_readPart_21 rfl 0 rfl ?_
  refine g_callW (pc := 22) C (g_runV (stk := []) C (c_X3_readKind F M) rfl rfl rfl kd_25 rfl wC_X3_readKind wI_X3_readKind wV_X3_readKind wi_X3 wm_X3_74 hy_X3_readKind (by decide) (Nat.le_of_ble_eq_true rfl) dX3_readPart_22) (fun r1 => ?_)
  refine g_lt (fun v2 => ?_)
  refine g_istore_n (pc := 25) (lv' := [(1, .int v2), (0, .ref (xad X 25))]) C dX3_readPart_25 rfl (by decide) rfl ?_
  refine g_aload_n (pc := 26) C dX3_readPart_26 rfl 1 rfl ?_
  refine g_iconst (pc := 27) C dX3_readPart_27 ic_iconst_3 ?_
  refine g_callW (pc := 28) C (g_runV (stk := []) C (c_X3_readNumber F (3 : Int32) r1.2) rfl rfl rfl kd_25 rfl wC_X3_readNumber wI_X3_readNumber wV_X3_readNumber wi_X3 wm_X3_78 hy_X3_readNumber (by decide) (Nat.le_of_ble_eq_true rfl) dX3_readPart_28) (fun r3 => ?_)
  refine g_lt (fun v4 => ?_)
  refine g_istore_n (pc := 31) (lv' := [(2, .int v4), (1, .int v2), (0, .ref (xad X 25))]) C dX3_readPart_31 rfl (by decide) rfl ?_
  refine g_aload_n (pc := 32) C dX3_readPart_32 rfl 2 rfl ?_
  refine g_bipush (pc := 33) C dX3_readPart_33 ic_bipush_9 ?_
  refine g_callW (pc := 35) C (g_runV (stk := []) C (c_X3_readNumber F (9 : Int32) r3.2) rfl rfl rfl kd_25 rfl wC_X3_readNumber wI_X3_readNumber wV_X3_readNumber wi_X3 wm_X3_78 hy_X3_readNumber (by decide) (Nat.le_of_ble_eq_true rfl) dX3_readPart_35) (fun r5 => ?_)
  refine g_lt (fun v6 => ?_)
  refine g_istore_n (pc := 38) (lv' := [(3, .int v6), (2, .int v4), (1, .int v2), (0, .ref (xad X 25))]) C dX3_readPart_38 rfl (by decide) rfl ?_
  refine g_aload_n (pc := 39) C dX3_readPart_39 rfl 3 rfl ?_
  refine g_bipush (pc := 40) C dX3_readPart_40 ic_bipush_99 ?_
  refine g_callW (pc := 42) C (g_runV (stk := []) C (c_X3_readNumber F (99 : Int32) r5.2) rfl rfl rfl kd_25 rfl wC_X3_readNumber wI_X3_readNumber wV_X3_readNumber wi_X3 wm_X3_78 hy_X3_readNumber (by decide) (Nat.le_of_ble_eq_true rfl) dX3_readPart_42) (fun r7 => ?_)
  refine g_lt (fun v8 => ?_)
  refine g_istore (pc := 45) (lv' := [(4, .int v8), (3, .int v6), (2, .int v4), (1, .int v2), (0, .ref (xad X 25))]) C dX3_readPart_45 (by decide) rfl ?_
  refine g_aload_n (pc := 47) C dX3_readPart_47 rfl 4 rfl ?_
  refine g_bipush (pc := 48) C dX3_readPart_48 ic_bipush_11 ?_
  refine g_callW (pc := 50) C (g_runV (stk := []) C (c_X3_readNumber F (11 : Int32) r7.2) rfl rfl rfl kd_25 rfl wC_X3_readNumber wI_X3_readNumber wV_X3_readNumber wi_X3 wm_X3_78 hy_X3_readNumber (by decide) (Nat.le_of_ble_eq_true rfl) dX3_readPart_50) (fun r9 => ?_)
  refine g_lt (fun v10 => ?_)
  refine g_istore (pc := 53) (lv' := [(5, .int v10), (4, .int v8), (3, .int v6), (2, .int v4), (1, .int v2), (0, .ref (xad X 25))]) C dX3_readPart_53 (by decide) rfl ?_
  refine g_aload_n (pc := 55) C dX3_readPart_55 rfl 5 rfl ?_
  refine g_bipush (pc := 56) C dX3_readPart_56 ic_bipush_11 ?_
  refine g_callW (pc := 58) C (g_runV (stk := []) C (c_X3_readNumber F (11 : Int32) r9.2) rfl rfl rfl kd_25 rfl wC_X3_readNumber wI_X3_readNumber wV_X3_readNumber wi_X3 wm_X3_78 hy_X3_readNumber (by decide) (Nat.le_of_ble_eq_true rfl) dX3_readPart_58) (fun r11 => ?_)
  refine g_lt (fun v12 => ?_)
  refine g_istore (pc := 61) (lv' := [(6, .int v12), (5, .int v10), (4, .int v8), (3, .int v6), (2, .int v4), (1, .int v2), (0, .ref (xad X 25))]) C dX3_readPart_61 (by decide) rfl ?_
  refine g_iload (pc := 63) C dX3_readPart_63 0 rfl ?_
  refine g_iload (pc := 65) C dX3_readPart_65 1 rfl ?_
  refine g_icmp_ge (pc := 67) (tgt := 79) C dX3_readPart_67 (by decide) ?_ ?_
  · refine g_sub (lv' := [(0, .ref (xad X 25)), (1, .int v2), (2, .int v4), (3, .int v6), (4, .int v8), (5, .int v10), (6, .int v12)]) [6, 5, 4, 3, 2, 1, 0] rfl ?_
    exact g_X3_readPart_b79 C F v2 v4 v6 v8 v10 v12 r11.2
  · refine g_aload_n (pc := 70) C dX3_readPart_70 rfl 6 rfl ?_
    refine g_iconst (pc := 71) C dX3_readPart_71 ic_iconst_4 ?_
    refine g_aload_n (pc := 72) C dX3_readPart_72 rfl 6 rfl ?_
    refine gf_X3_47 (pc := 73) C kd_25 dX3_readPart_73 ?_
    refine g_callV (pc := 76) C (g_runV (stk := []) C (c_X3_fail (4 : Int32) (r11.2 25 3) r11.2) rfl rfl rfl kd_25 rfl wC_X3_fail wI_X3_fail wV_X3_fail wi_X3 wm_X3_67 hy_X3_fail (by decide) (Nat.le_of_ble_eq_true rfl) dX3_readPart_76) (fun r16 => ?_)
    refine g_sub (lv' := [(0, .ref (xad X 25)), (1, .int v2), (2, .int v4), (3, .int v6), (4, .int v8), (5, .int v10), (6, .int v12)]) [6, 5, 4, 3, 2, 1, 0] rfl ?_
    exact g_X3_readPart_b79 C F v2 v4 v6 v8 v10 v12 r16

set_option maxRecDepth 100000 in
set_option maxHeartbeats 4000000 in
theorem c_X3_readPart (F : Nat)  (M : gM) : gCt yX3_readPart cX3_readPart 7 none 6 129 (fun ad K V => [.ref (ad 25)]) rvV rMV M (f_X3_readPart F M) := by
  refine g_met (y := yX3_readPart) (by decide +kernel) (fun _ _ _ => Nat.le_of_ble_eq_true rfl) (fun X C => ?_)
  show G X (gQm X rvV rMV) 7 M [(0, .ref (xad X 25))] [] 0 (f_X3_readPart F M)
  unfold f_X3_readPart
  refine g_aload_n (pc := 0) C dX3_readPart_0 rfl 0 rfl ?_
  refine gf_X3_15 (pc := 1) (u := 14) C kd_25 rfl dX3_readPart_1 ?_
  refine gf_X3_71 (pc := 4) C kd_14 dX3_readPart_4 ?_
  refine g_bipush (pc := 7) C dX3_readPart_7 ic_bipush_10 ?_
  refine g_icmp_lt (pc := 9) (tgt := 21) C dX3_readPart_9 (by decide) ?_ ?_
  · exact g_X3_readPart_b21 C F M
  · refine g_aload_n (pc := 12) C dX3_readPart_12 rfl 0 rfl ?_
    refine g_iconst (pc := 13) C dX3_readPart_13 ic_iconst_3 ?_
    refine g_aload_n (pc := 14) C dX3_readPart_14 rfl 0 rfl ?_
    refine gf_X3_47 (pc := 15) C kd_25 dX3_readPart_15 ?_
    refine g_callV (pc := 18) C (g_runV (stk := []) C (c_X3_fail (3 : Int32) (M 25 3) M) rfl rfl rfl kd_25 rfl wC_X3_fail wI_X3_fail wV_X3_fail wi_X3 wm_X3_67 hy_X3_fail (by decide) (Nat.le_of_ble_eq_true rfl) dX3_readPart_18) (fun r17 => ?_)
    exact g_X3_readPart_b21 C F r17

/-! X7_addScene -/
set_option maxRecDepth 100000 in
set_option maxHeartbeats 4000000 in
theorem c_X7_addScene (t : Nat) (a0 : Int32) (a1 : Int32) (a2 : Int32) (ht : kd t = gKo 7) (M : gM) : gCt yX7_addScene cX7_addScene 4 none 0 0 (fun ad K V => [.ref (ad t), .int a0, .int a1, .int a2]) rvV rMV M (f_X7_addScene t a0 a1 a2 M) := by
  refine g_met (y := yX7_addScene) (by decide +kernel) (fun _ _ _ => Nat.le_of_ble_eq_true rfl) (fun X C => ?_)
  show G X (gQm X rvV rMV) 4 M [(0, .ref (xad X t)), (1, .int a0), (2, .int a1), (3, .int a2)] [] 0 (f_X7_addScene t a0 a1 a2 M)
  unfold f_X7_addScene
  refine g_aload_n (pc := 0) C dX7_addScene_0 rfl 0 rfl ?_
  refine gf_X7_50 (pc := 1) C ht dX7_addScene_1 ?_
  refine g_bipush (pc := 4) C dX7_addScene_4 ic_bipush_8 ?_
  refine g_icmp_ge (pc := 6) (tgt := 49) C dX7_addScene_6 (by decide) ?_ ?_
  · exact g_vret (pc := 49) C dX7_addScene_49 rfl rfl
  · refine g_aload_n (pc := 9) C dX7_addScene_9 rfl 0 rfl ?_
    refine gf_X7_33 (pc := 10) C ht rfl dX7_addScene_10 ?_
    refine g_aload_n (pc := 13) C dX7_addScene_13 rfl 0 rfl ?_
    refine gf_X7_50 (pc := 14) C ht dX7_addScene_14 ?_
    refine g_iload_n (pc := 17) C dX7_addScene_17 rfl 1 rfl ?_
    refine g_iast (pc := 18) C (kf_7_7 ht) dX7_addScene_18 ?_
    refine g_ltM (fun M1 => ?_)
    refine g_aload_n (pc := 19) C dX7_addScene_19 rfl 0 rfl ?_
    refine gf_X7_36 (pc := 20) C ht rfl dX7_addScene_20 ?_
    refine g_aload_n (pc := 23) C dX7_addScene_23 rfl 0 rfl ?_
    refine gf_X7_50 (pc := 24) C ht dX7_addScene_24 ?_
    refine g_iload_n (pc := 27) C dX7_addScene_27 rfl 2 rfl ?_
    refine g_iast (pc := 28) C (kf_7_8 ht) dX7_addScene_28 ?_
    refine g_ltM (fun M2 => ?_)
    refine g_aload_n (pc := 29) C dX7_addScene_29 rfl 0 rfl ?_
    refine gf_X7_39 (pc := 30) C ht rfl dX7_addScene_30 ?_
    refine g_aload_n (pc := 33) C dX7_addScene_33 rfl 0 rfl ?_
    refine gf_X7_50 (pc := 34) C ht dX7_addScene_34 ?_
    refine g_iload_n (pc := 37) C dX7_addScene_37 rfl 3 rfl ?_
    refine g_iast (pc := 38) C (kf_7_9 ht) dX7_addScene_38 ?_
    refine g_ltM (fun M3 => ?_)
    refine g_aload_n (pc := 39) C dX7_addScene_39 rfl 0 rfl ?_
    refine g_dup (pc := 40) C dX7_addScene_40 rfl ?_
    refine gf_X7_50 (pc := 41) C ht dX7_addScene_41 ?_
    refine g_iconst (pc := 44) C dX7_addScene_44 ic_iconst_1 ?_
    refine g_iadd (pc := 45) C dX7_addScene_45 ?_
    refine gp_X7_50 (pc := 46) C ht dX7_addScene_46 ?_
    refine g_ltM (fun M4 => ?_)
    exact g_vret (pc := 49) C dX7_addScene_49 rfl rfl

/-! X3_readScene -/
set_option maxRecDepth 100000 in
set_option maxHeartbeats 4000000 in
theorem g_X3_readScene_b56 {X : gX} (C : gC X cX3_readScene RX3 4 none 3 65) (F : Nat) (x1 : Int32) (x2 : Int32) (x3 : Int32) (M : gM) : G X (gQm X rvV rMV) 4 M [(0, .ref (xad X 25)), (1, .int x1), (2, .int x2), (3, .int x3)] [] 56 (f_X3_readScene_b56 F x1 x2 x3 M) := by
  unfold f_X3_readScene_b56
  refine g_aload_n (pc := 56) C dX3_readScene_56 rfl 0 rfl ?_
  refine g_callV (pc := 57) C (g_runV (stk := []) C (c_X3_readEnd F M) rfl rfl rfl kd_25 rfl wC_X3_readEnd wI_X3_readEnd wV_X3_readEnd wi_X3 wm_X3_82 hy_X3_readEnd (by decide) (Nat.le_of_ble_eq_true rfl) dX3_readScene_57) (fun r7 => ?_)
  refine g_aload_n (pc := 60) C dX3_readScene_60 rfl 0 rfl ?_
  refine gf_X3_31 (pc := 61) C kd_25 dX3_readScene_61 ?_
  refine g_if_ne (pc := 64) (tgt := 77) C dX3_readScene_64 (by decide) ?_ ?_
  · exact g_vret (pc := 77) C dX3_readScene_77 rfl rfl
  · refine g_aload_n (pc := 67) C dX3_readScene_67 rfl 0 rfl ?_
    refine gf_X3_15 (pc := 68) (u := 14) C kd_25 rfl dX3_readScene_68 ?_
    refine g_iload_n (pc := 71) C dX3_readScene_71 rfl 1 rfl ?_
    refine g_iload_n (pc := 72) C dX3_readScene_72 rfl 2 rfl ?_
    refine g_iload_n (pc := 73) C dX3_readScene_73 rfl 3 rfl ?_
    refine g_callV (pc := 74) C (g_runVN (stk := []) C (c_X7_addScene 14 x1 x2 x3 kd_14 r7) rfl rfl rfl kd_14 rfl wC_X7_addScene wI_X7_addScene wV_X7_addScene wi_X7 wnm_X3_105 hy_X7_addScene (by decide) (Nat.le_of_ble_eq_true rfl) dX3_readScene_74) (fun r8 => ?_)
    exact g_vret (pc := 77) C dX3_readScene_77 rfl rfl

set_option maxRecDepth 100000 in
set_option maxHeartbeats 4000000 in
theorem g_X3_readScene_b21 {X : gX} (C : gC X cX3_readScene RX3 4 none 3 65) (F : Nat) (M : gM) : G X (gQm X rvV rMV) 4 M [(0, .ref (xad X 25))] [] 21 (f_X3_readScene_b21 F M) := by
  unfold f_X3_readScene_b21
  refine g_aload_n (pc := 21) C dX3_readScene_21 rfl 0 rfl ?_
  refine g_bipush (pc := 22) C dX3_readScene_22 ic_bipush_11 ?_
  refine g_callW (pc := 24) C (g_runV (stk := []) C (c_X3_readNumber F (11 : Int32) M) rfl rfl rfl kd_25 rfl wC_X3_readNumber wI_X3_readNumber wV_X3_readNumber wi_X3 wm_X3_78 hy_X3_readNumber (by decide) (Nat.le_of_ble_eq_true rfl) dX3_readScene_24) (fun r1 => ?_)
  refine g_lt (fun v2 => ?_)
  refine g_istore_n (pc := 27) (lv' := [(1, .int v2), (0, .ref (xad X 25))]) C dX3_readScene_27 rfl (by decide) rfl ?_
  refine g_aload_n (pc := 28) C dX3_readScene_28 rfl 1 rfl ?_
  refine g_bipush (pc := 29) C dX3_readScene_29 ic_bipush_27 ?_
  refine g_callW (pc := 31) C (g_runV (stk := []) C (c_X3_readNumber F (27 : Int32) r1.2) rfl rfl rfl kd_25 rfl wC_X3_readNumber wI_X3_readNumber wV_X3_readNumber wi_X3 wm_X3_78 hy_X3_readNumber (by decide) (Nat.le_of_ble_eq_true rfl) dX3_readScene_31) (fun r3 => ?_)
  refine g_lt (fun v4 => ?_)
  refine g_istore_n (pc := 34) (lv' := [(2, .int v4), (1, .int v2), (0, .ref (xad X 25))]) C dX3_readScene_34 rfl (by decide) rfl ?_
  refine g_aload_n (pc := 35) C dX3_readScene_35 rfl 2 rfl ?_
  refine g_bipush (pc := 36) C dX3_readScene_36 ic_bipush_27 ?_
  refine g_callW (pc := 38) C (g_runV (stk := []) C (c_X3_readNumber F (27 : Int32) r3.2) rfl rfl rfl kd_25 rfl wC_X3_readNumber wI_X3_readNumber wV_X3_readNumber wi_X3 wm_X3_78 hy_X3_readNumber (by decide) (Nat.le_of_ble_eq_true rfl) dX3_readScene_38) (fun r5 => ?_)
  refine g_lt (fun v6 => ?_)
  refine g_istore_n (pc := 41) (lv' := [(3, .int v6), (2, .int v4), (1, .int v2), (0, .ref (xad X 25))]) C dX3_readScene_41 rfl (by decide) rfl ?_
  refine g_iload_n (pc := 42) C dX3_readScene_42 rfl 0 rfl ?_
  refine g_iload_n (pc := 43) C dX3_readScene_43 rfl 1 rfl ?_
  refine g_icmp_ge (pc := 44) (tgt := 56) C dX3_readScene_44 (by decide) ?_ ?_
  · refine g_sub (lv' := [(0, .ref (xad X 25)), (1, .int v2), (2, .int v4), (3, .int v6)]) [3, 2, 1, 0] rfl ?_
    exact g_X3_readScene_b56 C F v2 v4 v6 r5.2
  · refine g_aload_n (pc := 47) C dX3_readScene_47 rfl 3 rfl ?_
    refine g_iconst (pc := 48) C dX3_readScene_48 ic_iconst_4 ?_
    refine g_aload_n (pc := 49) C dX3_readScene_49 rfl 3 rfl ?_
    refine gf_X3_47 (pc := 50) C kd_25 dX3_readScene_50 ?_
    refine g_callV (pc := 53) C (g_runV (stk := []) C (c_X3_fail (4 : Int32) (r5.2 25 3) r5.2) rfl rfl rfl kd_25 rfl wC_X3_fail wI_X3_fail wV_X3_fail wi_X3 wm_X3_67 hy_X3_fail (by decide) (Nat.le_of_ble_eq_true rfl) dX3_readScene_53) (fun r9 => ?_)
    refine g_sub (lv' := [(0, .ref (xad X 25)), (1, .int v2), (2, .int v4), (3, .int v6)]) [3, 2, 1, 0] rfl ?_
    exact g_X3_readScene_b56 C F v2 v4 v6 r9

set_option maxRecDepth 100000 in
set_option maxHeartbeats 4000000 in
theorem c_X3_readScene (F : Nat)  (M : gM) : gCt yX3_readScene cX3_readScene 4 none 3 65 (fun ad K V => [.ref (ad 25)]) rvV rMV M (f_X3_readScene F M) := by
  refine g_met (y := yX3_readScene) (by decide +kernel) (fun _ _ _ => Nat.le_of_ble_eq_true rfl) (fun X C => ?_)
  show G X (gQm X rvV rMV) 4 M [(0, .ref (xad X 25))] [] 0 (f_X3_readScene F M)
  unfold f_X3_readScene
  refine g_aload_n (pc := 0) C dX3_readScene_0 rfl 0 rfl ?_
  refine gf_X3_15 (pc := 1) (u := 14) C kd_25 rfl dX3_readScene_1 ?_
  refine gf_X3_102 (pc := 4) C kd_14 dX3_readScene_4 ?_
  refine g_bipush (pc := 7) C dX3_readScene_7 ic_bipush_8 ?_
  refine g_icmp_lt (pc := 9) (tgt := 21) C dX3_readScene_9 (by decide) ?_ ?_
  · exact g_X3_readScene_b21 C F M
  · refine g_aload_n (pc := 12) C dX3_readScene_12 rfl 0 rfl ?_
    refine g_iconst (pc := 13) C dX3_readScene_13 ic_iconst_3 ?_
    refine g_aload_n (pc := 14) C dX3_readScene_14 rfl 0 rfl ?_
    refine gf_X3_47 (pc := 15) C kd_25 dX3_readScene_15 ?_
    refine g_callV (pc := 18) C (g_runV (stk := []) C (c_X3_fail (3 : Int32) (M 25 3) M) rfl rfl rfl kd_25 rfl wC_X3_fail wI_X3_fail wV_X3_fail wi_X3 wm_X3_67 hy_X3_fail (by decide) (Nat.le_of_ble_eq_true rfl) dX3_readScene_18) (fun r10 => ?_)
    exact g_X3_readScene_b21 C F r10

/-! X7_clear -/
set_option maxRecDepth 100000 in
set_option maxHeartbeats 4000000 in
theorem c_X7_clear (t : Nat) (ht : kd t = gKo 7) (M : gM) : gCt yX7_clear cX7_clear 1 none 0 0 (fun ad K V => [.ref (ad t)]) rvV rMV M (f_X7_clear t M) := by
  refine g_met (y := yX7_clear) (by decide +kernel) (fun _ _ _ => Nat.le_of_ble_eq_true rfl) (fun X C => ?_)
  show G X (gQm X rvV rMV) 1 M [(0, .ref (xad X t))] [] 0 (f_X7_clear t M)
  unfold f_X7_clear
  refine g_aload_n (pc := 0) C dX7_clear_0 rfl 0 rfl ?_
  refine g_iconst (pc := 1) C dX7_clear_1 ic_iconst_0 ?_
  refine gp_X7_42 (pc := 2) C ht dX7_clear_2 ?_
  refine g_ltM (fun M1 => ?_)
  refine g_aload_n (pc := 5) C dX7_clear_5 rfl 0 rfl ?_
  refine g_iconst (pc := 6) C dX7_clear_6 ic_iconst_0 ?_
  refine gp_X7_53 (pc := 7) C ht dX7_clear_7 ?_
  refine g_ltM (fun M2 => ?_)
  refine g_aload_n (pc := 10) C dX7_clear_10 rfl 0 rfl ?_
  refine g_iconst (pc := 11) C dX7_clear_11 ic_iconst_0 ?_
  refine gp_X7_50 (pc := 12) C ht dX7_clear_12 ?_
  refine g_ltM (fun M3 => ?_)
  exact g_vret (pc := 15) C dX7_clear_15 rfl rfl

/-! X3_readTown -/
set_option maxRecDepth 100000 in
set_option maxHeartbeats 4000000 in
theorem g_X3_readTown_h28_b {X : gX} (C : gC X cX3_readTown RX3 2 (some .int) 7 155) (F : Nat) (k28 : Int32 → gM → Option (Int32 × gM)) (hk28 : ∀ (x1 : Int32) (M : gM), G X (gQm X rvW rMW) 2 M [(0, .ref (xad X 25)), (1, .int x1)] [] 28 (k28 x1 M)) (x1 : Int32) (M : gM) : G X (gQm X rvW rMW) 2 M [(0, .ref (xad X 25)), (1, .int x1)] [] 28 (f_X3_readTown_h28_b F k28 x1 M) := by
  unfold f_X3_readTown_h28_b
  refine g_iload_n (pc := 28) C dX3_readTown_28 rfl 1 rfl ?_
  refine g_sipush (pc := 29) C dX3_readTown_29 ic_sipush_400 ?_
  refine g_icmp_ge (pc := 32) (tgt := 160) C dX3_readTown_32 (by decide) ?_ ?_
  · refine g_aload_n (pc := 160) C dX3_readTown_160 rfl 0 rfl ?_
    refine gf_X3_31 (pc := 161) C kd_25 dX3_readTown_161 ?_
    exact g_iret (pc := 164) C dX3_readTown_164 rfl rfl
  · refine g_aload_n (pc := 35) C dX3_readTown_35 rfl 0 rfl ?_
    refine gf_X3_28 (pc := 36) C kd_25 dX3_readTown_36 ?_
    refine g_aload_n (pc := 39) C dX3_readTown_39 rfl 0 rfl ?_
    refine gf_X3_9 (pc := 40) (u := 1) C kd_25 rfl dX3_readTown_40 ?_
    refine gf_X3_37 (pc := 43) C kd_1 dX3_readTown_43 ?_
    refine g_icmp_ge (pc := 46) (tgt := 160) C dX3_readTown_46 (by decide) ?_ ?_
    · refine g_aload_n (pc := 160) C dX3_readTown_160 rfl 0 rfl ?_
      refine gf_X3_31 (pc := 161) C kd_25 dX3_readTown_161 ?_
      exact g_iret (pc := 164) C dX3_readTown_164 rfl rfl
    · refine g_aload_n (pc := 49) C dX3_readTown_49 rfl 0 rfl ?_
      refine gf_X3_31 (pc := 50) C kd_25 dX3_readTown_50 ?_
      refine g_if_ne (pc := 53) (tgt := 160) C dX3_readTown_53 (by decide) ?_ ?_
      · refine g_aload_n (pc := 160) C dX3_readTown_160 rfl 0 rfl ?_
        refine gf_X3_31 (pc := 161) C kd_25 dX3_readTown_161 ?_
        exact g_iret (pc := 164) C dX3_readTown_164 rfl rfl
      · refine g_aload_n (pc := 56) C dX3_readTown_56 rfl 0 rfl ?_
        refine g_callV (pc := 57) C (g_runV (stk := []) C (c_X3_readWord F M) rfl rfl rfl kd_25 rfl wC_X3_readWord wI_X3_readWord wV_X3_readWord wi_X3 wm_X3_42 hy_X3_readWord (by decide) (Nat.le_of_ble_eq_true rfl) dX3_readTown_57) (fun r6 => ?_)
        refine g_aload_n (pc := 60) C dX3_readTown_60 rfl 0 rfl ?_
        refine gf_X3_9 (pc := 61) (u := 1) C kd_25 rfl dX3_readTown_61 ?_
        refine g_ldcS (pc := 64) (w := 0) C (by decide) rfl rfl dX3_readTown_64 ?_
        refine g_aload_n (pc := 66) C dX3_readTown_66 rfl 0 rfl ?_
        refine gf_X3_47 (pc := 67) C kd_25 dX3_readTown_67 ?_
        refine g_aload_n (pc := 70) C dX3_readTown_70 rfl 0 rfl ?_
        refine gf_X3_28 (pc := 71) C kd_25 dX3_readTown_71 ?_
        refine g_callR (pc := 74) C (g_runVN (stk := []) C (c_X6_stands F 0 (r6 25 3) (r6 25 2) (by decide : 0 < 6) r6) rfl rfl rfl kd_1 rfl wC_X6_stands wI_X6_stands wV_X6_stands wi_X6 wnm_X3_50 hy_X6_stands (by decide) (Nat.le_of_ble_eq_true rfl) dX3_readTown_74) (fun r7 => ?_)
        refine g_if_eq (pc := 77) (tgt := 87) C dX3_readTown_77 (by decide) ?_ ?_
        · refine g_aload_n (pc := 87) C dX3_readTown_87 rfl 0 rfl ?_
          refine gf_X3_9 (pc := 88) (u := 1) C kd_25 rfl dX3_readTown_88 ?_
          refine g_ldcS (pc := 91) (w := 1) C (by decide) rfl rfl dX3_readTown_91 ?_
          refine g_aload_n (pc := 93) C dX3_readTown_93 rfl 0 rfl ?_
          refine gf_X3_47 (pc := 94) C kd_25 dX3_readTown_94 ?_
          refine g_aload_n (pc := 97) C dX3_readTown_97 rfl 0 rfl ?_
          refine gf_X3_28 (pc := 98) C kd_25 dX3_readTown_98 ?_
          refine g_callR (pc := 101) C (g_runVN (stk := []) C (c_X6_stands F 1 (r6 25 3) (r6 25 2) (by decide : 1 < 6) r6) rfl rfl rfl kd_1 rfl wC_X6_stands wI_X6_stands wV_X6_stands wi_X6 wnm_X3_50 hy_X6_stands (by decide) (Nat.le_of_ble_eq_true rfl) dX3_readTown_101) (fun r8 => ?_)
          refine g_if_eq (pc := 104) (tgt := 114) C dX3_readTown_104 (by decide) ?_ ?_
          · refine g_aload_n (pc := 114) C dX3_readTown_114 rfl 0 rfl ?_
            refine gf_X3_9 (pc := 115) (u := 1) C kd_25 rfl dX3_readTown_115 ?_
            refine g_ldcS (pc := 118) (w := 2) C (by decide) rfl rfl dX3_readTown_118 ?_
            refine g_aload_n (pc := 120) C dX3_readTown_120 rfl 0 rfl ?_
            refine gf_X3_47 (pc := 121) C kd_25 dX3_readTown_121 ?_
            refine g_aload_n (pc := 124) C dX3_readTown_124 rfl 0 rfl ?_
            refine gf_X3_28 (pc := 125) C kd_25 dX3_readTown_125 ?_
            refine g_callR (pc := 128) C (g_runVN (stk := []) C (c_X6_stands F 2 (r6 25 3) (r6 25 2) (by decide : 2 < 6) r6) rfl rfl rfl kd_1 rfl wC_X6_stands wI_X6_stands wV_X6_stands wi_X6 wnm_X3_50 hy_X6_stands (by decide) (Nat.le_of_ble_eq_true rfl) dX3_readTown_128) (fun r9 => ?_)
            refine g_if_eq (pc := 131) (tgt := 141) C dX3_readTown_131 (by decide) ?_ ?_
            · refine g_aload_n (pc := 141) C dX3_readTown_141 rfl 0 rfl ?_
              refine g_iconst (pc := 142) C dX3_readTown_142 ic_iconst_1 ?_
              refine g_aload_n (pc := 143) C dX3_readTown_143 rfl 0 rfl ?_
              refine gf_X3_47 (pc := 144) C kd_25 dX3_readTown_144 ?_
              refine g_callV (pc := 147) C (g_runV (stk := []) C (c_X3_fail (1 : Int32) (r6 25 3) r6) rfl rfl rfl kd_25 rfl wC_X3_fail wI_X3_fail wV_X3_fail wi_X3 wm_X3_67 hy_X3_fail (by decide) (Nat.le_of_ble_eq_true rfl) dX3_readTown_147) (fun r10 => ?_)
              refine g_aload_n (pc := 150) C dX3_readTown_150 rfl 0 rfl ?_
              refine g_callV (pc := 151) C (g_runV (stk := []) C (c_X3_skipBlanks F r10) rfl rfl rfl kd_25 rfl wC_X3_skipBlanks wI_X3_skipBlanks wV_X3_skipBlanks wi_X3 wm_X3_34 hy_X3_skipBlanks (by decide) (Nat.le_of_ble_eq_true rfl) dX3_readTown_151) (fun r11 => ?_)
              refine g_iinc (pc := 154) (j := 1) (lv' := [(1, .int (x1 + (1 : Int32))), (0, .ref (xad X 25))]) C dX3_readTown_154 rfl (ii_1 _) (by decide) rfl ?_
              refine g_goto (pc := 157) (tgt := 28) C dX3_readTown_157 (by decide) ?_
              refine g_sub (lv' := [(0, .ref (xad X 25)), (1, .int (x1 + (1 : Int32)))]) [1, 0] rfl ?_
              exact hk28 (x1 + (1 : Int32)) r11
            · refine g_aload_n (pc := 134) C dX3_readTown_134 rfl 0 rfl ?_
              refine g_callV (pc := 135) C (g_runV (stk := []) C (c_X3_readScene F r6) rfl rfl rfl kd_25 rfl wC_X3_readScene wI_X3_readScene wV_X3_readScene wi_X3 wm_X3_64 hy_X3_readScene (by decide) (Nat.le_of_ble_eq_true rfl) dX3_readTown_135) (fun r12 => ?_)
              refine g_goto (pc := 138) (tgt := 150) C dX3_readTown_138 (by decide) ?_
              refine g_aload_n (pc := 150) C dX3_readTown_150 rfl 0 rfl ?_
              refine g_callV (pc := 151) C (g_runV (stk := []) C (c_X3_skipBlanks F r12) rfl rfl rfl kd_25 rfl wC_X3_skipBlanks wI_X3_skipBlanks wV_X3_skipBlanks wi_X3 wm_X3_34 hy_X3_skipBlanks (by decide) (Nat.le_of_ble_eq_true rfl) dX3_readTown_151) (fun r13 => ?_)
              refine g_iinc (pc := 154) (j := 1) (lv' := [(1, .int (x1 + (1 : Int32))), (0, .ref (xad X 25))]) C dX3_readTown_154 rfl (ii_1 _) (by decide) rfl ?_
              refine g_goto (pc := 157) (tgt := 28) C dX3_readTown_157 (by decide) ?_
              refine g_sub (lv' := [(0, .ref (xad X 25)), (1, .int (x1 + (1 : Int32)))]) [1, 0] rfl ?_
              exact hk28 (x1 + (1 : Int32)) r13
          · refine g_aload_n (pc := 107) C dX3_readTown_107 rfl 0 rfl ?_
            refine g_callV (pc := 108) C (g_runV (stk := []) C (c_X3_readClash F r6) rfl rfl rfl kd_25 rfl wC_X3_readClash wI_X3_readClash wV_X3_readClash wi_X3 wm_X3_59 hy_X3_readClash (by decide) (Nat.le_of_ble_eq_true rfl) dX3_readTown_108) (fun r14 => ?_)
            refine g_goto (pc := 111) (tgt := 150) C dX3_readTown_111 (by decide) ?_
            refine g_aload_n (pc := 150) C dX3_readTown_150 rfl 0 rfl ?_
            refine g_callV (pc := 151) C (g_runV (stk := []) C (c_X3_skipBlanks F r14) rfl rfl rfl kd_25 rfl wC_X3_skipBlanks wI_X3_skipBlanks wV_X3_skipBlanks wi_X3 wm_X3_34 hy_X3_skipBlanks (by decide) (Nat.le_of_ble_eq_true rfl) dX3_readTown_151) (fun r15 => ?_)
            refine g_iinc (pc := 154) (j := 1) (lv' := [(1, .int (x1 + (1 : Int32))), (0, .ref (xad X 25))]) C dX3_readTown_154 rfl (ii_1 _) (by decide) rfl ?_
            refine g_goto (pc := 157) (tgt := 28) C dX3_readTown_157 (by decide) ?_
            refine g_sub (lv' := [(0, .ref (xad X 25)), (1, .int (x1 + (1 : Int32)))]) [1, 0] rfl ?_
            exact hk28 (x1 + (1 : Int32)) r15
        · refine g_aload_n (pc := 80) C dX3_readTown_80 rfl 0 rfl ?_
          refine g_callV (pc := 81) C (g_runV (stk := []) C (c_X3_readPart F r6) rfl rfl rfl kd_25 rfl wC_X3_readPart wI_X3_readPart wV_X3_readPart wi_X3 wm_X3_54 hy_X3_readPart (by decide) (Nat.le_of_ble_eq_true rfl) dX3_readTown_81) (fun r16 => ?_)
          refine g_goto (pc := 84) (tgt := 150) C dX3_readTown_84 (by decide) ?_
          refine g_aload_n (pc := 150) C dX3_readTown_150 rfl 0 rfl ?_
          refine g_callV (pc := 151) C (g_runV (stk := []) C (c_X3_skipBlanks F r16) rfl rfl rfl kd_25 rfl wC_X3_skipBlanks wI_X3_skipBlanks wV_X3_skipBlanks wi_X3 wm_X3_34 hy_X3_skipBlanks (by decide) (Nat.le_of_ble_eq_true rfl) dX3_readTown_151) (fun r17 => ?_)
          refine g_iinc (pc := 154) (j := 1) (lv' := [(1, .int (x1 + (1 : Int32))), (0, .ref (xad X 25))]) C dX3_readTown_154 rfl (ii_1 _) (by decide) rfl ?_
          refine g_goto (pc := 157) (tgt := 28) C dX3_readTown_157 (by decide) ?_
          refine g_sub (lv' := [(0, .ref (xad X 25)), (1, .int (x1 + (1 : Int32)))]) [1, 0] rfl ?_
          exact hk28 (x1 + (1 : Int32)) r17

theorem g_X3_readTown_h28 {X : gX} (C : gC X cX3_readTown RX3 2 (some .int) 7 155) (F : Nat) : ∀ (n : Nat) (x1 : Int32) (M : gM), G X (gQm X rvW rMW) 2 M [(0, .ref (xad X 25)), (1, .int x1)] [] 28 (f_X3_readTown_h28 F n x1 M) := by
  intro n
  induction n with
  | zero =>
    intro x1 M r hr
    have hr2 : (none : Option (Int32 × gM)) = some r := hr
    cases hr2
  | succ n ih =>
    intro x1 M
    exact g_X3_readTown_h28_b C F _ ih x1 M
set_option maxRecDepth 100000 in
set_option maxHeartbeats 4000000 in
theorem c_X3_readTown (F : Nat)  (M : gM) : gCt yX3_readTown cX3_readTown 2 (some .int) 7 155 (fun ad K V => [.ref (ad 25)]) rvW rMW M (f_X3_readTown F M) := by
  refine g_met (y := yX3_readTown) (by decide +kernel) (fun _ _ _ => Nat.le_of_ble_eq_true rfl) (fun X C => ?_)
  show G X (gQm X rvW rMW) 2 M [(0, .ref (xad X 25))] [] 0 (f_X3_readTown F M)
  unfold f_X3_readTown
  refine g_aload_n (pc := 0) C dX3_readTown_0 rfl 0 rfl ?_
  refine gf_X3_15 (pc := 1) (u := 14) C kd_25 rfl dX3_readTown_1 ?_
  refine g_callV (pc := 4) C (g_runVN (stk := []) C (c_X7_clear 14 kd_14 M) rfl rfl rfl kd_14 rfl wC_X7_clear wI_X7_clear wV_X7_clear wi_X7 wnm_X3_23 hy_X7_clear (by decide) (Nat.le_of_ble_eq_true rfl) dX3_readTown_4) (fun r1 => ?_)
  refine g_aload_n (pc := 7) C dX3_readTown_7 rfl 0 rfl ?_
  refine g_iconst (pc := 8) C dX3_readTown_8 ic_iconst_0 ?_
  refine gp_X3_28 (pc := 9) C kd_25 dX3_readTown_9 ?_
  refine g_ltM (fun M2 => ?_)
  refine g_aload_n (pc := 12) C dX3_readTown_12 rfl 0 rfl ?_
  refine g_iconst (pc := 13) C dX3_readTown_13 ic_iconst_0 ?_
  refine gp_X3_31 (pc := 14) C kd_25 dX3_readTown_14 ?_
  refine g_ltM (fun M3 => ?_)
  refine g_aload_n (pc := 17) C dX3_readTown_17 rfl 0 rfl ?_
  refine g_iconst (pc := 18) C dX3_readTown_18 ic_iconst_m1 ?_
  refine gp_X3_19 (pc := 19) C kd_25 dX3_readTown_19 ?_
  refine g_ltM (fun M4 => ?_)
  refine g_aload_n (pc := 22) C dX3_readTown_22 rfl 0 rfl ?_
  refine g_callV (pc := 23) C (g_runV (stk := []) C (c_X3_skipBlanks F M4) rfl rfl rfl kd_25 rfl wC_X3_skipBlanks wI_X3_skipBlanks wV_X3_skipBlanks wi_X3 wm_X3_34 hy_X3_skipBlanks (by decide) (Nat.le_of_ble_eq_true rfl) dX3_readTown_23) (fun r5 => ?_)
  refine g_iconst (pc := 26) C dX3_readTown_26 ic_iconst_0 ?_
  refine g_istore_n (pc := 27) (lv' := [(1, .int (0 : Int32)), (0, .ref (xad X 25))]) C dX3_readTown_27 rfl (by decide) rfl ?_
  refine g_sub (lv' := [(0, .ref (xad X 25)), (1, .int (0 : Int32))]) [1, 0] rfl ?_
  exact g_X3_readTown_h28 C F F (0 : Int32) r5

/-! X4_add -/
set_option maxRecDepth 100000 in
set_option maxHeartbeats 4000000 in
theorem c_X4_add (a0 : Int32) (a1 : Int32)  (M : gM) : gCt yX4_add cX4_add 3 (some .boolean) 0 0 (fun ad K V => [.ref (ad 88), .int a0, .int a1]) rvW rMW M (f_X4_add a0 a1 M) := by
  refine g_met (y := yX4_add) (by decide +kernel) (fun _ _ _ => Nat.le_of_ble_eq_true rfl) (fun X C => ?_)
  show G X (gQm X rvW rMW) 3 M [(0, .ref (xad X 88)), (1, .int a0), (2, .int a1)] [] 0 (f_X4_add a0 a1 M)
  unfold f_X4_add
  refine g_aload_n (pc := 0) C dX4_add_0 rfl 0 rfl ?_
  refine gf_X4_26 (pc := 1) C kd_88 dX4_add_1 ?_
  refine g_bipush (pc := 4) C dX4_add_4 ic_bipush_20 ?_
  refine g_icmp_lt (pc := 6) (tgt := 11) C dX4_add_6 (by decide) ?_ ?_
  · refine g_aload_n (pc := 11) C dX4_add_11 rfl 0 rfl ?_
    refine gf_X4_9 (pc := 12) (u := 89) C kd_88 rfl dX4_add_12 ?_
    refine g_aload_n (pc := 15) C dX4_add_15 rfl 0 rfl ?_
    refine gf_X4_26 (pc := 16) C kd_88 dX4_add_16 ?_
    refine g_iload_n (pc := 19) C dX4_add_19 rfl 1 rfl ?_
    refine g_iast (pc := 20) C kd_89 dX4_add_20 ?_
    refine g_ltM (fun M1 => ?_)
    refine g_aload_n (pc := 21) C dX4_add_21 rfl 0 rfl ?_
    refine gf_X4_15 (pc := 22) (u := 90) C kd_88 rfl dX4_add_22 ?_
    refine g_aload_n (pc := 25) C dX4_add_25 rfl 0 rfl ?_
    refine gf_X4_26 (pc := 26) C kd_88 dX4_add_26 ?_
    refine g_iload_n (pc := 29) C dX4_add_29 rfl 2 rfl ?_
    refine g_iast (pc := 30) C kd_90 dX4_add_30 ?_
    refine g_ltM (fun M2 => ?_)
    refine g_aload_n (pc := 31) C dX4_add_31 rfl 0 rfl ?_
    refine g_dup (pc := 32) C dX4_add_32 rfl ?_
    refine gf_X4_26 (pc := 33) C kd_88 dX4_add_33 ?_
    refine g_iconst (pc := 36) C dX4_add_36 ic_iconst_1 ?_
    refine g_iadd (pc := 37) C dX4_add_37 ?_
    refine gp_X4_26 (pc := 38) C kd_88 dX4_add_38 ?_
    refine g_ltM (fun M3 => ?_)
    refine g_iconst (pc := 41) C dX4_add_41 ic_iconst_1 ?_
    exact g_zretk (pc := 42) C rfl dX4_add_42 rfl rfl
  · refine g_iconst (pc := 9) C dX4_add_9 ic_iconst_0 ?_
    exact g_zretk (pc := 10) C rfl dX4_add_10 rfl rfl

/-! X4_mayBe -/
set_option maxRecDepth 100000 in
set_option maxHeartbeats 4000000 in
theorem c_X4_mayBe (a0 : Int32) (a1 : Int32) (a2 : Int32)  (M : gM) : gCt yX4_mayBe cX4_mayBe 4 (some .boolean) 2 43 (fun ad K V => [.ref (ad 88), .int a0, .int a1, .int a2]) rvR (rMR M) M (f_X4_mayBe a0 a1 a2 M) := by
  refine g_met (y := yX4_mayBe) (by decide +kernel) (fun _ _ _ => Nat.le_of_ble_eq_true rfl) (fun X C => ?_)
  show G X (gQm X rvR (rMR M)) 4 M [(0, .ref (xad X 88)), (1, .int a0), (2, .int a1), (3, .int a2)] [] 0 (f_X4_mayBe a0 a1 a2 M)
  unfold f_X4_mayBe
  refine g_aload_n (pc := 0) C dX4_mayBe_0 rfl 0 rfl ?_
  refine gf_X4_22 (pc := 1) (u := 39) C kd_88 rfl dX4_mayBe_1 ?_
  refine g_iload_n (pc := 4) C dX4_mayBe_4 rfl 1 rfl ?_
  refine g_callR (pc := 5) C (g_runVN (stk := []) C (c_X2_partsOf a0 M) rfl rfl rfl kd_39 rfl wC_X2_partsOf wI_X2_partsOf wV_X2_partsOf wi_X2 wnm_X4_30 hy_X2_partsOf (by decide) (Nat.le_of_ble_eq_true rfl) dX4_mayBe_5) (fun r1 => ?_)
  refine g_iload_n (pc := 8) C dX4_mayBe_8 rfl 3 rfl ?_
  refine g_iconst (pc := 9) C dX4_mayBe_9 ic_iconst_m1 ?_
  refine g_ixor (pc := 10) C dX4_mayBe_10 ?_
  refine g_iand (pc := 11) C dX4_mayBe_11 ?_
  refine g_if_ne (pc := 12) (tgt := 36) C dX4_mayBe_12 (by decide) ?_ ?_
  · refine g_iconst (pc := 36) C dX4_mayBe_36 ic_iconst_0 ?_
    exact g_zretk (pc := 37) C rfl dX4_mayBe_37 rfl rfl
  · refine g_aload_n (pc := 15) C dX4_mayBe_15 rfl 0 rfl ?_
    refine gf_X4_22 (pc := 16) (u := 39) C kd_88 rfl dX4_mayBe_16 ?_
    refine g_iload_n (pc := 19) C dX4_mayBe_19 rfl 1 rfl ?_
    refine g_callR (pc := 20) C (g_runVN (stk := []) C (c_X2_widthOf a0 M) rfl rfl rfl kd_39 rfl wC_X2_widthOf wI_X2_widthOf wV_X2_widthOf wi_X2 wnm_X4_36 hy_X2_widthOf (by decide) (Nat.le_of_ble_eq_true rfl) dX4_mayBe_20) (fun r2 => ?_)
    refine g_aload_n (pc := 23) C dX4_mayBe_23 rfl 0 rfl ?_
    refine gf_X4_15 (pc := 24) (u := 90) C kd_88 rfl dX4_mayBe_24 ?_
    refine g_iload_n (pc := 27) C dX4_mayBe_27 rfl 2 rfl ?_
    refine g_iald (pc := 28) C kd_90 dX4_mayBe_28 ?_
    refine g_icmp_ne (pc := 29) (tgt := 36) C dX4_mayBe_29 (by decide) ?_ ?_
    · refine g_iconst (pc := 36) C dX4_mayBe_36 ic_iconst_0 ?_
      exact g_zretk (pc := 37) C rfl dX4_mayBe_37 rfl rfl
    · refine g_iconst (pc := 32) C dX4_mayBe_32 ic_iconst_1 ?_
      refine g_goto (pc := 33) (tgt := 37) C dX4_mayBe_33 (by decide) ?_
      exact g_zretk (pc := 37) C rfl dX4_mayBe_37 rfl rfl

/-! X4_mayBeWorn -/
set_option maxRecDepth 100000 in
set_option maxHeartbeats 4000000 in
theorem g_X4_mayBeWorn_h19_b {X : gX} (C : gC X cX4_mayBeWorn RX4 5 (some .int) 3 66) (F : Nat) (a0 : Int32) (M : gM) (k19 : Int32 → Int32 → Int32 → Option Int32) (hk19 : ∀ (x2 : Int32) (x3 : Int32) (x4 : Int32), G X (gQm X rvR (rMR M)) 5 M [(0, .ref (xad X 88)), (1, .int a0), (2, .int x2), (3, .int x3), (4, .int x4)] [] 19 (k19 x2 x3 x4)) (x2 : Int32) (x3 : Int32) (x4 : Int32) : G X (gQm X rvR (rMR M)) 5 M [(0, .ref (xad X 88)), (1, .int a0), (2, .int x2), (3, .int x3), (4, .int x4)] [] 19 (f_X4_mayBeWorn_h19_b F a0 M k19 x2 x3 x4) := by
  unfold f_X4_mayBeWorn_h19_b
  refine g_iload (pc := 19) C dX4_mayBeWorn_19 4 rfl ?_
  refine g_aload_n (pc := 21) C dX4_mayBeWorn_21 rfl 0 rfl ?_
  refine gf_X4_22 (pc := 22) (u := 39) C kd_88 rfl dX4_mayBeWorn_22 ?_
  refine gf_X4_44 (pc := 25) C kd_39 dX4_mayBeWorn_25 ?_
  refine g_icmp_ge (pc := 28) (tgt := 60) C dX4_mayBeWorn_28 (by decide) ?_ ?_
  · refine g_iload_n (pc := 60) C dX4_mayBeWorn_60 rfl 3 rfl ?_
    exact g_iret (pc := 61) C dX4_mayBeWorn_61 rfl rfl
  · refine g_aload_n (pc := 31) C dX4_mayBeWorn_31 rfl 0 rfl ?_
    refine g_iload (pc := 32) C dX4_mayBeWorn_32 4 rfl ?_
    refine g_iload_n (pc := 34) C dX4_mayBeWorn_34 rfl 1 rfl ?_
    refine g_iload_n (pc := 35) C dX4_mayBeWorn_35 rfl 2 rfl ?_
    refine g_callR (pc := 36) C (g_runV (stk := []) C (c_X4_mayBe x4 a0 x2 M) rfl rfl rfl kd_88 rfl wC_X4_mayBe wI_X4_mayBe wV_X4_mayBe wi_X4 wm_X4_45 hy_X4_mayBe (by decide) (Nat.le_of_ble_eq_true rfl) dX4_mayBeWorn_36) (fun r2 => ?_)
    refine g_if_eq (pc := 39) (tgt := 54) C dX4_mayBeWorn_39 (by decide) ?_ ?_
    · refine g_iinc (pc := 54) (j := 4) (lv' := [(4, .int (x4 + (1 : Int32))), (0, .ref (xad X 88)), (1, .int a0), (2, .int x2), (3, .int x3)]) C dX4_mayBeWorn_54 rfl (ii_1 _) (by decide) rfl ?_
      refine g_goto (pc := 57) (tgt := 19) C dX4_mayBeWorn_57 (by decide) ?_
      refine g_sub (lv' := [(0, .ref (xad X 88)), (1, .int a0), (2, .int x2), (3, .int x3), (4, .int (x4 + (1 : Int32)))]) [1, 2, 3, 4, 0] rfl ?_
      exact hk19 x2 x3 (x4 + (1 : Int32))
    · refine g_iload_n (pc := 42) C dX4_mayBeWorn_42 rfl 3 rfl ?_
      refine g_aload_n (pc := 43) C dX4_mayBeWorn_43 rfl 0 rfl ?_
      refine gf_X4_22 (pc := 44) (u := 39) C kd_88 rfl dX4_mayBeWorn_44 ?_
      refine g_iload (pc := 47) C dX4_mayBeWorn_47 4 rfl ?_
      refine g_callR (pc := 49) C (g_runVN (stk := [.int x3]) C (c_X2_partsOf x4 M) rfl rfl rfl kd_39 rfl wC_X2_partsOf wI_X2_partsOf wV_X2_partsOf wi_X2 wnm_X4_30 hy_X2_partsOf (by decide) (Nat.le_of_ble_eq_true rfl) dX4_mayBeWorn_49) (fun r3 => ?_)
      refine g_ior (pc := 52) C dX4_mayBeWorn_52 ?_
      refine g_lt (fun v4 => ?_)
      refine g_istore_n (pc := 53) (lv' := [(3, .int v4), (0, .ref (xad X 88)), (1, .int a0), (2, .int x2), (4, .int x4)]) C dX4_mayBeWorn_53 rfl (by decide) rfl ?_
      refine g_iinc (pc := 54) (j := 4) (lv' := [(4, .int (x4 + (1 : Int32))), (3, .int v4), (0, .ref (xad X 88)), (1, .int a0), (2, .int x2)]) C dX4_mayBeWorn_54 rfl (ii_1 _) (by decide) rfl ?_
      refine g_goto (pc := 57) (tgt := 19) C dX4_mayBeWorn_57 (by decide) ?_
      refine g_sub (lv' := [(0, .ref (xad X 88)), (1, .int a0), (2, .int x2), (3, .int v4), (4, .int (x4 + (1 : Int32)))]) [2, 3, 4, 1, 0] rfl ?_
      exact hk19 x2 v4 (x4 + (1 : Int32))

theorem g_X4_mayBeWorn_h19 {X : gX} (C : gC X cX4_mayBeWorn RX4 5 (some .int) 3 66) (F : Nat) (a0 : Int32) (M : gM) : ∀ (n : Nat) (x2 : Int32) (x3 : Int32) (x4 : Int32), G X (gQm X rvR (rMR M)) 5 M [(0, .ref (xad X 88)), (1, .int a0), (2, .int x2), (3, .int x3), (4, .int x4)] [] 19 (f_X4_mayBeWorn_h19 F a0 M n x2 x3 x4) := by
  intro n
  induction n with
  | zero =>
    intro x2 x3 x4 r hr
    have hr2 : (none : Option Int32) = some r := hr
    cases hr2
  | succ n ih =>
    intro x2 x3 x4
    exact g_X4_mayBeWorn_h19_b C F a0 M _ ih x2 x3 x4
set_option maxRecDepth 100000 in
set_option maxHeartbeats 4000000 in
theorem c_X4_mayBeWorn (F : Nat) (a0 : Int32)  (M : gM) : gCt yX4_mayBeWorn cX4_mayBeWorn 5 (some .int) 3 66 (fun ad K V => [.ref (ad 88), .int a0]) rvR (rMR M) M (f_X4_mayBeWorn F a0 M) := by
  refine g_met (y := yX4_mayBeWorn) (by decide +kernel) (fun _ _ _ => Nat.le_of_ble_eq_true rfl) (fun X C => ?_)
  show G X (gQm X rvR (rMR M)) 5 M [(0, .ref (xad X 88)), (1, .int a0)] [] 0 (f_X4_mayBeWorn F a0 M)
  unfold f_X4_mayBeWorn
  refine g_aload_n (pc := 0) C dX4_mayBeWorn_0 rfl 0 rfl ?_
  refine gf_X4_18 (pc := 1) (u := 3) C kd_88 rfl dX4_mayBeWorn_1 ?_
  refine g_aload_n (pc := 4) C dX4_mayBeWorn_4 rfl 0 rfl ?_
  refine gf_X4_9 (pc := 5) (u := 89) C kd_88 rfl dX4_mayBeWorn_5 ?_
  refine g_iload_n (pc := 8) C dX4_mayBeWorn_8 rfl 1 rfl ?_
  refine g_iald (pc := 9) C kd_89 dX4_mayBeWorn_9 ?_
  refine g_callR (pc := 10) C (g_runVN (stk := []) C (c_X7_freeIn F 3 (M 89 a0.toNatClampNeg) kd_3 M) rfl rfl rfl kd_3 rfl wC_X7_freeIn wI_X7_freeIn wV_X7_freeIn wi_X7 wnm_X4_39 hy_X7_freeIn (by decide) (Nat.le_of_ble_eq_true rfl) dX4_mayBeWorn_10) (fun r1 => ?_)
  refine g_istore_n (pc := 13) (lv' := [(2, .int r1), (0, .ref (xad X 88)), (1, .int a0)]) C dX4_mayBeWorn_13 rfl (by decide) rfl ?_
  refine g_iconst (pc := 14) C dX4_mayBeWorn_14 ic_iconst_0 ?_
  refine g_istore_n (pc := 15) (lv' := [(3, .int (0 : Int32)), (2, .int r1), (0, .ref (xad X 88)), (1, .int a0)]) C dX4_mayBeWorn_15 rfl (by decide) rfl ?_
  refine g_iconst (pc := 16) C dX4_mayBeWorn_16 ic_iconst_0 ?_
  refine g_istore (pc := 17) (lv' := [(4, .int (0 : Int32)), (3, .int (0 : Int32)), (2, .int r1), (0, .ref (xad X 88)), (1, .int a0)]) C dX4_mayBeWorn_17 (by decide) rfl ?_
  refine g_sub (lv' := [(0, .ref (xad X 88)), (1, .int a0), (2, .int r1), (3, .int (0 : Int32)), (4, .int (0 : Int32))]) [3, 4, 2, 1, 0] rfl ?_
  exact g_X4_mayBeWorn_h19 C F a0 M F r1 (0 : Int32) (0 : Int32)

/-! X4_firstStrange -/
set_option maxRecDepth 100000 in
set_option maxHeartbeats 4000000 in
theorem g_X4_firstStrange_h2_b {X : gX} (C : gC X cX4_firstStrange RX4 2 (some .int) 4 90) (F : Nat) (M : gM) (k2 : Int32 → Option Int32) (hk2 : ∀ (x1 : Int32), G X (gQm X rvR (rMR M)) 2 M [(0, .ref (xad X 88)), (1, .int x1)] [] 2 (k2 x1)) (x1 : Int32) : G X (gQm X rvR (rMR M)) 2 M [(0, .ref (xad X 88)), (1, .int x1)] [] 2 (f_X4_firstStrange_h2_b F M k2 x1) := by
  unfold f_X4_firstStrange_h2_b
  refine g_iload_n (pc := 2) C dX4_firstStrange_2 rfl 1 rfl ?_
  refine g_aload_n (pc := 3) C dX4_firstStrange_3 rfl 0 rfl ?_
  refine gf_X4_26 (pc := 4) C kd_88 dX4_firstStrange_4 ?_
  refine g_icmp_ge (pc := 7) (tgt := 26) C dX4_firstStrange_7 (by decide) ?_ ?_
  · refine g_iconst (pc := 26) C dX4_firstStrange_26 ic_iconst_m1 ?_
    exact g_iret (pc := 27) C dX4_firstStrange_27 rfl rfl
  · refine g_aload_n (pc := 10) C dX4_firstStrange_10 rfl 0 rfl ?_
    refine g_iload_n (pc := 11) C dX4_firstStrange_11 rfl 1 rfl ?_
    refine g_callR (pc := 12) C (g_runV (stk := []) C (c_X4_mayBeWorn F x1 M) rfl rfl rfl kd_88 rfl wC_X4_mayBeWorn wI_X4_mayBeWorn wV_X4_mayBeWorn wi_X4 wm_X4_49 hy_X4_mayBeWorn (by decide) (Nat.le_of_ble_eq_true rfl) dX4_firstStrange_12) (fun r1 => ?_)
    refine g_if_ne (pc := 15) (tgt := 20) C dX4_firstStrange_15 (by decide) ?_ ?_
    · refine g_iinc (pc := 20) (j := 1) (lv' := [(1, .int (x1 + (1 : Int32))), (0, .ref (xad X 88))]) C dX4_firstStrange_20 rfl (ii_1 _) (by decide) rfl ?_
      refine g_goto (pc := 23) (tgt := 2) C dX4_firstStrange_23 (by decide) ?_
      refine g_sub (lv' := [(0, .ref (xad X 88)), (1, .int (x1 + (1 : Int32)))]) [1, 0] rfl ?_
      exact hk2 (x1 + (1 : Int32))
    · refine g_iload_n (pc := 18) C dX4_firstStrange_18 rfl 1 rfl ?_
      exact g_iret (pc := 19) C dX4_firstStrange_19 rfl rfl

theorem g_X4_firstStrange_h2 {X : gX} (C : gC X cX4_firstStrange RX4 2 (some .int) 4 90) (F : Nat) (M : gM) : ∀ (n : Nat) (x1 : Int32), G X (gQm X rvR (rMR M)) 2 M [(0, .ref (xad X 88)), (1, .int x1)] [] 2 (f_X4_firstStrange_h2 F M n x1) := by
  intro n
  induction n with
  | zero =>
    intro x1 r hr
    have hr2 : (none : Option Int32) = some r := hr
    cases hr2
  | succ n ih =>
    intro x1
    exact g_X4_firstStrange_h2_b C F M _ ih x1
set_option maxRecDepth 100000 in
set_option maxHeartbeats 4000000 in
theorem c_X4_firstStrange (F : Nat)  (M : gM) : gCt yX4_firstStrange cX4_firstStrange 2 (some .int) 4 90 (fun ad K V => [.ref (ad 88)]) rvR (rMR M) M (f_X4_firstStrange F M) := by
  refine g_met (y := yX4_firstStrange) (by decide +kernel) (fun _ _ _ => Nat.le_of_ble_eq_true rfl) (fun X C => ?_)
  show G X (gQm X rvR (rMR M)) 2 M [(0, .ref (xad X 88))] [] 0 (f_X4_firstStrange F M)
  unfold f_X4_firstStrange
  refine g_iconst (pc := 0) C dX4_firstStrange_0 ic_iconst_0 ?_
  refine g_istore_n (pc := 1) (lv' := [(1, .int (0 : Int32)), (0, .ref (xad X 88))]) C dX4_firstStrange_1 rfl (by decide) rfl ?_
  refine g_sub (lv' := [(0, .ref (xad X 88)), (1, .int (0 : Int32))]) [1, 0] rfl ?_
  exact g_X4_firstStrange_h2 C F M F (0 : Int32)

/-! X4_surelyWorn -/
set_option maxRecDepth 100000 in
set_option maxHeartbeats 4000000 in
theorem g_X4_surelyWorn_h23_b {X : gX} (C : gC X cX4_surelyWorn RX4 5 (some .int) 4 90) (F : Nat) (a0 : Int32) (M : gM) (k23 : Int32 → Int32 → Int32 → Option Int32) (hk23 : ∀ (x2 : Int32) (x3 : Int32) (x4 : Int32), G X (gQm X rvR (rMR M)) 5 M [(0, .ref (xad X 88)), (1, .int a0), (2, .int x2), (3, .int x3), (4, .int x4)] [] 23 (k23 x2 x3 x4)) (x2 : Int32) (x3 : Int32) (x4 : Int32) : G X (gQm X rvR (rMR M)) 5 M [(0, .ref (xad X 88)), (1, .int a0), (2, .int x2), (3, .int x3), (4, .int x4)] [] 23 (f_X4_surelyWorn_h23_b F a0 M k23 x2 x3 x4) := by
  unfold f_X4_surelyWorn_h23_b
  refine g_iload (pc := 23) C dX4_surelyWorn_23 4 rfl ?_
  refine g_aload_n (pc := 25) C dX4_surelyWorn_25 rfl 0 rfl ?_
  refine gf_X4_22 (pc := 26) (u := 39) C kd_88 rfl dX4_surelyWorn_26 ?_
  refine gf_X4_44 (pc := 29) C kd_39 dX4_surelyWorn_29 ?_
  refine g_icmp_ge (pc := 32) (tgt := 64) C dX4_surelyWorn_32 (by decide) ?_ ?_
  · refine g_iload_n (pc := 64) C dX4_surelyWorn_64 rfl 3 rfl ?_
    exact g_iret (pc := 65) C dX4_surelyWorn_65 rfl rfl
  · refine g_aload_n (pc := 35) C dX4_surelyWorn_35 rfl 0 rfl ?_
    refine g_iload (pc := 36) C dX4_surelyWorn_36 4 rfl ?_
    refine g_iload_n (pc := 38) C dX4_surelyWorn_38 rfl 1 rfl ?_
    refine g_iload_n (pc := 39) C dX4_surelyWorn_39 rfl 2 rfl ?_
    refine g_callR (pc := 40) C (g_runV (stk := []) C (c_X4_mayBe x4 a0 x2 M) rfl rfl rfl kd_88 rfl wC_X4_mayBe wI_X4_mayBe wV_X4_mayBe wi_X4 wm_X4_45 hy_X4_mayBe (by decide) (Nat.le_of_ble_eq_true rfl) dX4_surelyWorn_40) (fun r3 => ?_)
    refine g_if_eq (pc := 43) (tgt := 58) C dX4_surelyWorn_43 (by decide) ?_ ?_
    · refine g_iinc (pc := 58) (j := 4) (lv' := [(4, .int (x4 + (1 : Int32))), (0, .ref (xad X 88)), (1, .int a0), (2, .int x2), (3, .int x3)]) C dX4_surelyWorn_58 rfl (ii_1 _) (by decide) rfl ?_
      refine g_goto (pc := 61) (tgt := 23) C dX4_surelyWorn_61 (by decide) ?_
      refine g_sub (lv' := [(0, .ref (xad X 88)), (1, .int a0), (2, .int x2), (3, .int x3), (4, .int (x4 + (1 : Int32)))]) [1, 2, 3, 4, 0] rfl ?_
      exact hk23 x2 x3 (x4 + (1 : Int32))
    · refine g_iload_n (pc := 46) C dX4_surelyWorn_46 rfl 3 rfl ?_
      refine g_aload_n (pc := 47) C dX4_surelyWorn_47 rfl 0 rfl ?_
      refine gf_X4_22 (pc := 48) (u := 39) C kd_88 rfl dX4_surelyWorn_48 ?_
      refine g_iload (pc := 51) C dX4_surelyWorn_51 4 rfl ?_
      refine g_callR (pc := 53) C (g_runVN (stk := [.int x3]) C (c_X2_partsOf x4 M) rfl rfl rfl kd_39 rfl wC_X2_partsOf wI_X2_partsOf wV_X2_partsOf wi_X2 wnm_X4_30 hy_X2_partsOf (by decide) (Nat.le_of_ble_eq_true rfl) dX4_surelyWorn_53) (fun r4 => ?_)
      refine g_iand (pc := 56) C dX4_surelyWorn_56 ?_
      refine g_lt (fun v5 => ?_)
      refine g_istore_n (pc := 57) (lv' := [(3, .int v5), (0, .ref (xad X 88)), (1, .int a0), (2, .int x2), (4, .int x4)]) C dX4_surelyWorn_57 rfl (by decide) rfl ?_
      refine g_iinc (pc := 58) (j := 4) (lv' := [(4, .int (x4 + (1 : Int32))), (3, .int v5), (0, .ref (xad X 88)), (1, .int a0), (2, .int x2)]) C dX4_surelyWorn_58 rfl (ii_1 _) (by decide) rfl ?_
      refine g_goto (pc := 61) (tgt := 23) C dX4_surelyWorn_61 (by decide) ?_
      refine g_sub (lv' := [(0, .ref (xad X 88)), (1, .int a0), (2, .int x2), (3, .int v5), (4, .int (x4 + (1 : Int32)))]) [2, 3, 4, 1, 0] rfl ?_
      exact hk23 x2 v5 (x4 + (1 : Int32))

theorem g_X4_surelyWorn_h23 {X : gX} (C : gC X cX4_surelyWorn RX4 5 (some .int) 4 90) (F : Nat) (a0 : Int32) (M : gM) : ∀ (n : Nat) (x2 : Int32) (x3 : Int32) (x4 : Int32), G X (gQm X rvR (rMR M)) 5 M [(0, .ref (xad X 88)), (1, .int a0), (2, .int x2), (3, .int x3), (4, .int x4)] [] 23 (f_X4_surelyWorn_h23 F a0 M n x2 x3 x4) := by
  intro n
  induction n with
  | zero =>
    intro x2 x3 x4 r hr
    have hr2 : (none : Option Int32) = some r := hr
    cases hr2
  | succ n ih =>
    intro x2 x3 x4
    exact g_X4_surelyWorn_h23_b C F a0 M _ ih x2 x3 x4
set_option maxRecDepth 100000 in
set_option maxHeartbeats 4000000 in
theorem c_X4_surelyWorn (F : Nat) (a0 : Int32)  (M : gM) : gCt yX4_surelyWorn cX4_surelyWorn 5 (some .int) 4 90 (fun ad K V => [.ref (ad 88), .int a0]) rvR (rMR M) M (f_X4_surelyWorn F a0 M) := by
  refine g_met (y := yX4_surelyWorn) (by decide +kernel) (fun _ _ _ => Nat.le_of_ble_eq_true rfl) (fun X C => ?_)
  show G X (gQm X rvR (rMR M)) 5 M [(0, .ref (xad X 88)), (1, .int a0)] [] 0 (f_X4_surelyWorn F a0 M)
  unfold f_X4_surelyWorn
  refine g_aload_n (pc := 0) C dX4_surelyWorn_0 rfl 0 rfl ?_
  refine gf_X4_18 (pc := 1) (u := 3) C kd_88 rfl dX4_surelyWorn_1 ?_
  refine g_aload_n (pc := 4) C dX4_surelyWorn_4 rfl 0 rfl ?_
  refine gf_X4_9 (pc := 5) (u := 89) C kd_88 rfl dX4_surelyWorn_5 ?_
  refine g_iload_n (pc := 8) C dX4_surelyWorn_8 rfl 1 rfl ?_
  refine g_iald (pc := 9) C kd_89 dX4_surelyWorn_9 ?_
  refine g_callR (pc := 10) C (g_runVN (stk := []) C (c_X7_freeIn F 3 (M 89 a0.toNatClampNeg) kd_3 M) rfl rfl rfl kd_3 rfl wC_X7_freeIn wI_X7_freeIn wV_X7_freeIn wi_X7 wnm_X4_39 hy_X7_freeIn (by decide) (Nat.le_of_ble_eq_true rfl) dX4_surelyWorn_10) (fun r1 => ?_)
  refine g_istore_n (pc := 13) (lv' := [(2, .int r1), (0, .ref (xad X 88)), (1, .int a0)]) C dX4_surelyWorn_13 rfl (by decide) rfl ?_
  refine g_aload_n (pc := 14) C dX4_surelyWorn_14 rfl 1 rfl ?_
  refine g_iload_n (pc := 15) C dX4_surelyWorn_15 rfl 2 rfl ?_
  refine g_callR (pc := 16) C (g_runV (stk := []) C (c_X4_mayBeWorn F a0 M) rfl rfl rfl kd_88 rfl wC_X4_mayBeWorn wI_X4_mayBeWorn wV_X4_mayBeWorn wi_X4 wm_X4_49 hy_X4_mayBeWorn (by decide) (Nat.le_of_ble_eq_true rfl) dX4_surelyWorn_16) (fun r2 => ?_)
  refine g_istore_n (pc := 19) (lv' := [(3, .int r2), (2, .int r1), (0, .ref (xad X 88)), (1, .int a0)]) C dX4_surelyWorn_19 rfl (by decide) rfl ?_
  refine g_iconst (pc := 20) C dX4_surelyWorn_20 ic_iconst_0 ?_
  refine g_istore (pc := 21) (lv' := [(4, .int (0 : Int32)), (3, .int r2), (2, .int r1), (0, .ref (xad X 88)), (1, .int a0)]) C dX4_surelyWorn_21 (by decide) rfl ?_
  refine g_sub (lv' := [(0, .ref (xad X 88)), (1, .int a0), (2, .int r1), (3, .int r2), (4, .int (0 : Int32))]) [3, 4, 2, 1, 0] rfl ?_
  exact g_X4_surelyWorn_h23 C F a0 M F r1 r2 (0 : Int32)

