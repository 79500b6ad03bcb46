/-! X5_beginIn -/
set_option maxRecDepth 100000 in
set_option maxHeartbeats 4000000 in
theorem g_X5_beginIn_h24_b {X : gX} (C : gC X cX5_beginIn RX5 3 none 2 42) (F : Nat) (t : Nat) (a0 : Nat) (ht : kd t = gKo 5) (ha0 : kd a0 = gKo 7) (k24 : Int32 → gM → Option gM) (hk24 : ∀ (x2 : Int32) (M : gM), G X (gQm X rvV rMV) 3 M [(0, .ref (xad X t)), (2, .int x2)] [] 24 (k24 x2 M)) (x2 : Int32) (M : gM) : G X (gQm X rvV rMV) 3 M [(0, .ref (xad X t)), (2, .int x2)] [] 24 (f_X5_beginIn_h24_b F t a0 k24 x2 M) := by
  unfold f_X5_beginIn_h24_b
  refine g_iload_n (pc := 24) C dX5_beginIn_24 rfl 1 rfl ?_
  refine g_bipush (pc := 25) C dX5_beginIn_25 ic_bipush_10 ?_
  refine g_icmp_ge (pc := 27) (tgt := 43) C dX5_beginIn_27 (by decide) ?_ ?_
  · refine g_aload_n (pc := 43) C dX5_beginIn_43 rfl 0 rfl ?_
    refine g_iconst (pc := 44) C dX5_beginIn_44 ic_iconst_0 ?_
    refine gp_X5_33 (pc := 45) C ht dX5_beginIn_45 ?_
    refine g_ltM (fun M3 => ?_)
    refine g_aload_n (pc := 48) C dX5_beginIn_48 rfl 0 rfl ?_
    refine g_iconst (pc := 49) C dX5_beginIn_49 ic_iconst_0 ?_
    refine gp_X5_37 (pc := 50) C ht dX5_beginIn_50 ?_
    refine g_ltM (fun M4 => ?_)
    exact g_vret (pc := 53) C dX5_beginIn_53 rfl rfl
  · refine g_aload_n (pc := 30) C dX5_beginIn_30 rfl 0 rfl ?_
    refine gf_X5_18 (pc := 31) C ht rfl dX5_beginIn_31 ?_
    refine g_iload_n (pc := 34) C dX5_beginIn_34 rfl 1 rfl ?_
    refine g_iconst (pc := 35) C dX5_beginIn_35 ic_iconst_0 ?_
    refine g_iast (pc := 36) C (kf_5_2 ht) dX5_beginIn_36 ?_
    refine g_ltM (fun M5 => ?_)
    refine g_iinc (pc := 37) (j := 1) (lv' := [(2, .int (x2 + (1 : Int32))), (0, .ref (xad X t))]) C dX5_beginIn_37 rfl (ii_1 _) (by decide) rfl ?_
    refine g_goto (pc := 40) (tgt := 24) C dX5_beginIn_40 (by decide) ?_
    refine g_sub (lv' := [(0, .ref (xad X t)), (2, .int (x2 + (1 : Int32)))]) [1, 0] rfl ?_
    exact hk24 (x2 + (1 : Int32)) M5

theorem g_X5_beginIn_h24 {X : gX} (C : gC X cX5_beginIn RX5 3 none 2 42) (F : Nat) (t : Nat) (a0 : Nat) (ht : kd t = gKo 5) (ha0 : kd a0 = gKo 7) : ∀ (n : Nat) (x2 : Int32) (M : gM), G X (gQm X rvV rMV) 3 M [(0, .ref (xad X t)), (2, .int x2)] [] 24 (f_X5_beginIn_h24 F t a0 n x2 M) := by
  intro n
  induction n with
  | zero =>
    intro x2 M r hr
    have hr2 : (none : Option gM) = some r := hr
    cases hr2
  | succ n ih =>
    intro x2 M
    exact g_X5_beginIn_h24_b C F t a0 ht ha0 _ ih x2 M
set_option maxRecDepth 100000 in
set_option maxHeartbeats 4000000 in
theorem c_X5_beginIn (F : Nat) (t : Nat) (a0 : Nat) (ht : kd t = gKo 5) (ha0 : kd a0 = gKo 7) (M : gM) : gCt yX5_beginIn cX5_beginIn 3 none 2 42 (fun ad K V => [.ref (ad t), .ref (ad a0)]) rvV rMV M (f_X5_beginIn F t a0 M) := by
  refine g_met (y := yX5_beginIn) (by decide +kernel) (fun _ _ _ => Nat.le_of_ble_eq_true rfl) (fun X C => ?_)
  show G X (gQm X rvV rMV) 3 M [(0, .ref (xad X t)), (1, .ref (xad X a0))] [] 0 (f_X5_beginIn F t a0 M)
  unfold f_X5_beginIn
  refine g_aload_n (pc := 0) C dX5_beginIn_0 rfl 1 rfl ?_
  refine gf_X5_21 (pc := 1) C ha0 rfl dX5_beginIn_1 ?_
  refine g_aload_n (pc := 4) C dX5_beginIn_4 rfl 0 rfl ?_
  refine gf_X5_9 (pc := 5) C ht rfl dX5_beginIn_5 ?_
  refine g_callV (pc := 8) C (g_runSN (stk := []) C (c_X8_copyRow F (rf a0 2) 10 (rf t 0) 10 (kf_7_2 ha0) (kf_5_0 ht) M) rfl rfl rfl wC_X8_copyRow wS_X8_copyRow wi_X8 wnm_X5_26 hy_X8_copyRow (by decide) (Nat.le_of_ble_eq_true rfl) dX5_beginIn_8) (fun r1 => ?_)
  refine g_aload_n (pc := 11) C dX5_beginIn_11 rfl 1 rfl ?_
  refine gf_X5_30 (pc := 12) C ha0 rfl dX5_beginIn_12 ?_
  refine g_aload_n (pc := 15) C dX5_beginIn_15 rfl 0 rfl ?_
  refine gf_X5_15 (pc := 16) C ht rfl dX5_beginIn_16 ?_
  refine g_callV (pc := 19) C (g_runSN (stk := []) C (c_X8_copyRow F (rf a0 3) 10 (rf t 1) 10 (kf_7_3 ha0) (kf_5_1 ht) r1) rfl rfl rfl wC_X8_copyRow wS_X8_copyRow wi_X8 wnm_X5_26 hy_X8_copyRow (by decide) (Nat.le_of_ble_eq_true rfl) dX5_beginIn_19) (fun r2 => ?_)
  refine g_iconst (pc := 22) C dX5_beginIn_22 ic_iconst_0 ?_
  refine g_istore_n (pc := 23) (lv' := [(2, .int (0 : Int32)), (0, .ref (xad X t)), (1, .ref (xad X a0))]) C dX5_beginIn_23 rfl (by decide) rfl ?_
  refine g_sub (lv' := [(0, .ref (xad X t)), (2, .int (0 : Int32))]) [1, 0] rfl ?_
  exact g_X5_beginIn_h24 C F t a0 ht ha0 F (0 : Int32) r2

/-! X5_copyFrom -/
set_option maxRecDepth 100000 in
set_option maxHeartbeats 4000000 in
theorem c_X5_copyFrom (F : Nat) (t : Nat) (a0 : Nat) (ht : kd t = gKo 5) (ha0 : kd a0 = gKo 5) (M : gM) : gCt yX5_copyFrom cX5_copyFrom 2 none 2 42 (fun ad K V => [.ref (ad t), .ref (ad a0)]) rvV rMV M (f_X5_copyFrom F t a0 M) := by
  refine g_met (y := yX5_copyFrom) (by decide +kernel) (fun _ _ _ => Nat.le_of_ble_eq_true rfl) (fun X C => ?_)
  show G X (gQm X rvV rMV) 2 M [(0, .ref (xad X t)), (1, .ref (xad X a0))] [] 0 (f_X5_copyFrom F t a0 M)
  unfold f_X5_copyFrom
  refine g_aload_n (pc := 0) C dX5_copyFrom_0 rfl 1 rfl ?_
  refine gf_X5_9 (pc := 1) C ha0 rfl dX5_copyFrom_1 ?_
  refine g_aload_n (pc := 4) C dX5_copyFrom_4 rfl 0 rfl ?_
  refine gf_X5_9 (pc := 5) C ht rfl dX5_copyFrom_5 ?_
  refine g_callV (pc := 8) C (g_runSN (stk := []) C (c_X8_copyRow F (rf a0 0) 10 (rf t 0) 10 (kf_5_0 ha0) (kf_5_0 ht) M) rfl rfl rfl wC_X8_copyRow wS_X8_copyRow wi_X8 wnm_X5_26 hy_X8_copyRow (by decide) (Nat.le_of_ble_eq_true rfl) dX5_copyFrom_8) (fun r1 => ?_)
  refine g_aload_n (pc := 11) C dX5_copyFrom_11 rfl 1 rfl ?_
  refine gf_X5_15 (pc := 12) C ha0 rfl dX5_copyFrom_12 ?_
  refine g_aload_n (pc := 15) C dX5_copyFrom_15 rfl 0 rfl ?_
  refine gf_X5_15 (pc := 16) C ht rfl dX5_copyFrom_16 ?_
  refine g_callV (pc := 19) C (g_runSN (stk := []) C (c_X8_copyRow F (rf a0 1) 10 (rf t 1) 10 (kf_5_1 ha0) (kf_5_1 ht) r1) rfl rfl rfl wC_X8_copyRow wS_X8_copyRow wi_X8 wnm_X5_26 hy_X8_copyRow (by decide) (Nat.le_of_ble_eq_true rfl) dX5_copyFrom_19) (fun r2 => ?_)
  refine g_aload_n (pc := 22) C dX5_copyFrom_22 rfl 1 rfl ?_
  refine gf_X5_18 (pc := 23) C ha0 rfl dX5_copyFrom_23 ?_
  refine g_aload_n (pc := 26) C dX5_copyFrom_26 rfl 0 rfl ?_
  refine gf_X5_18 (pc := 27) C ht rfl dX5_copyFrom_27 ?_
  refine g_callV (pc := 30) C (g_runSN (stk := []) C (c_X8_copyRow F (rf a0 2) 10 (rf t 2) 10 (kf_5_2 ha0) (kf_5_2 ht) r2) rfl rfl rfl wC_X8_copyRow wS_X8_copyRow wi_X8 wnm_X5_26 hy_X8_copyRow (by decide) (Nat.le_of_ble_eq_true rfl) dX5_copyFrom_30) (fun r3 => ?_)
  refine g_aload_n (pc := 33) C dX5_copyFrom_33 rfl 0 rfl ?_
  refine g_aload_n (pc := 34) C dX5_copyFrom_34 rfl 1 rfl ?_
  refine gf_X5_33 (pc := 35) C ha0 dX5_copyFrom_35 ?_
  refine gp_X5_33 (pc := 38) C ht dX5_copyFrom_38 ?_
  refine g_ltM (fun M4 => ?_)
  refine g_aload_n (pc := 41) C dX5_copyFrom_41 rfl 0 rfl ?_
  refine g_aload_n (pc := 42) C dX5_copyFrom_42 rfl 1 rfl ?_
  refine gf_X5_37 (pc := 43) C ha0 dX5_copyFrom_43 ?_
  refine gp_X5_37 (pc := 46) C ht dX5_copyFrom_46 ?_
  refine g_ltM (fun M5 => ?_)
  refine g_aload_n (pc := 49) C dX5_copyFrom_49 rfl 0 rfl ?_
  refine g_aload_n (pc := 50) C dX5_copyFrom_50 rfl 1 rfl ?_
  refine gf_X5_40 (pc := 51) C ha0 dX5_copyFrom_51 ?_
  refine gp_X5_40 (pc := 54) C ht dX5_copyFrom_54 ?_
  refine g_ltM (fun M6 => ?_)
  refine g_aload_n (pc := 57) C dX5_copyFrom_57 rfl 0 rfl ?_
  refine g_aload_n (pc := 58) C dX5_copyFrom_58 rfl 1 rfl ?_
  refine gf_X5_43 (pc := 59) C ha0 dX5_copyFrom_59 ?_
  refine gp_X5_43 (pc := 62) C ht dX5_copyFrom_62 ?_
  refine g_ltM (fun M7 => ?_)
  exact g_vret (pc := 65) C dX5_copyFrom_65 rfl rfl

/-! X5_drawOfFour -/
set_option maxRecDepth 100000 in
set_option maxHeartbeats 4000000 in
theorem c_X5_drawOfFour (t : Nat) (ht : kd t = gKo 5) (M : gM) : gCt yX5_drawOfFour cX5_drawOfFour 1 (some .int) 0 0 (fun ad K V => [.ref (ad t)]) rvW rMW M (f_X5_drawOfFour t M) := by
  refine g_met (y := yX5_drawOfFour) (by decide +kernel) (fun _ _ _ => Nat.le_of_ble_eq_true rfl) (fun X C => ?_)
  show G X (gQm X rvW rMW) 1 M [(0, .ref (xad X t))] [] 0 (f_X5_drawOfFour t M)
  unfold f_X5_drawOfFour
  refine g_aload_n (pc := 0) C dX5_drawOfFour_0 rfl 0 rfl ?_
  refine g_aload_n (pc := 1) C dX5_drawOfFour_1 rfl 0 rfl ?_
  refine gf_X5_43 (pc := 2) C ht dX5_drawOfFour_2 ?_
  refine g_i2l (pc := 5) C dX5_drawOfFour_5 ?_
  refine g_ldc2 (pc := 6) C wl_X5_56 dX5_drawOfFour_6 ?_
  refine g_lmul (pc := 9) C dX5_drawOfFour_9 ?_
  refine g_ldc2 (pc := 10) C wl_X5_58 dX5_drawOfFour_10 ?_
  refine g_ladd (pc := 13) C dX5_drawOfFour_13 ?_
  refine g_ldc2 (pc := 14) C wl_X5_60 dX5_drawOfFour_14 ?_
  refine g_land (pc := 17) C dX5_drawOfFour_17 ?_
  refine g_l2i (pc := 18) C dX5_drawOfFour_18 ?_
  refine gp_X5_43 (pc := 19) C ht dX5_drawOfFour_19 ?_
  refine g_ltM (fun M1 => ?_)
  refine g_aload_n (pc := 22) C dX5_drawOfFour_22 rfl 0 rfl ?_
  refine gf_X5_43 (pc := 23) C ht dX5_drawOfFour_23 ?_
  refine g_ldc (pc := 26) C wk_X5_62 dX5_drawOfFour_26 ?_
  refine g_idivk (pc := 28) C dX5_drawOfFour_28 (by decide) ?_
  refine g_iconst (pc := 29) C dX5_drawOfFour_29 ic_iconst_4 ?_
  refine g_iremk (pc := 30) C dX5_drawOfFour_30 (by decide) ?_
  exact g_iret (pc := 31) C dX5_drawOfFour_31 rfl rfl

/-! X5_drawPrices -/
set_option maxRecDepth 100000 in
set_option maxHeartbeats 4000000 in
theorem g_X5_drawPrices_h9_b {X : gX} (C : gC X cX5_drawPrices RX5 5 none 1 20) (F : Nat) (t : Nat) (a0 : Int32) (ht : kd t = gKo 5) (k9 : Int32 → Int32 → gM → Option gM) (hk9 : ∀ (x2 : Int32) (x3 : Int32) (M : gM), G X (gQm X rvV rMV) 5 M [(0, .ref (xad X t)), (2, .int x2), (3, .int x3)] [] 9 (k9 x2 x3 M)) (x2 : Int32) (x3 : Int32) (M : gM) : G X (gQm X rvV rMV) 5 M [(0, .ref (xad X t)), (2, .int x2), (3, .int x3)] [] 9 (f_X5_drawPrices_h9_b F t a0 k9 x2 x3 M) := by
  unfold f_X5_drawPrices_h9_b
  refine g_iload_n (pc := 9) C dX5_drawPrices_9 rfl 2 rfl ?_
  refine g_iload_n (pc := 10) C dX5_drawPrices_10 rfl 1 rfl ?_
  refine g_icmp_ge (pc := 11) (tgt := 77) C dX5_drawPrices_11 (by decide) ?_ ?_
  · exact g_vret (pc := 77) C dX5_drawPrices_77 rfl rfl
  · refine g_aload_n (pc := 14) C dX5_drawPrices_14 rfl 0 rfl ?_
    refine g_callW (pc := 15) C (g_runV (stk := []) C (c_X5_drawOfFour t ht M) rfl rfl rfl ht rfl wC_X5_drawOfFour wI_X5_drawOfFour wV_X5_drawOfFour wi_X5 wm_X5_63 hy_X5_drawOfFour (by decide) (Nat.le_of_ble_eq_true rfl) dX5_drawPrices_15) (fun r2 => ?_)
    refine g_lt (fun v3 => ?_)
    refine g_istore (pc := 18) (lv' := [(4, .int v3), (0, .ref (xad X t)), (2, .int x2), (3, .int x3)]) C dX5_drawPrices_18 (by decide) rfl ?_
    refine g_iload (pc := 20) C dX5_drawPrices_20 0 rfl ?_
    refine g_if_ne (pc := 22) (tgt := 47) C dX5_drawPrices_22 (by decide) ?_ ?_
    · refine g_iload (pc := 47) C dX5_drawPrices_47 0 rfl ?_
      refine g_iconst (pc := 49) C dX5_drawPrices_49 ic_iconst_1 ?_
      refine g_icmp_ne (pc := 50) (tgt := 71) C dX5_drawPrices_50 (by decide) ?_ ?_
      · refine g_iinc (pc := 71) (j := 3) (lv' := [(3, .int (x3 + (1 : Int32))), (4, .int v3), (0, .ref (xad X t)), (2, .int x2)]) C dX5_drawPrices_71 rfl (ii_1 _) (by decide) rfl ?_
        refine g_goto (pc := 74) (tgt := 9) C dX5_drawPrices_74 (by decide) ?_
        refine g_sub (lv' := [(0, .ref (xad X t)), (2, .int x2), (3, .int (x3 + (1 : Int32)))]) [2, 3, 0] rfl ?_
        exact hk9 x2 (x3 + (1 : Int32)) r2.2
      · refine g_aload_n (pc := 53) C dX5_drawPrices_53 rfl 1 rfl ?_
        refine gf_X5_15 (pc := 54) C ht rfl dX5_drawPrices_54 ?_
        refine g_iload_n (pc := 57) C dX5_drawPrices_57 rfl 3 rfl ?_
        refine g_iconst (pc := 58) C dX5_drawPrices_58 ic_iconst_0 ?_
        refine g_aload_n (pc := 59) C dX5_drawPrices_59 rfl 1 rfl ?_
        refine gf_X5_15 (pc := 60) C ht rfl dX5_drawPrices_60 ?_
        refine g_iload_n (pc := 63) C dX5_drawPrices_63 rfl 3 rfl ?_
        refine g_iald (pc := 64) C (kf_5_1 ht) dX5_drawPrices_64 ?_
        refine g_iconst (pc := 65) C dX5_drawPrices_65 ic_iconst_1 ?_
        refine g_isub (pc := 66) C dX5_drawPrices_66 ?_
        refine g_mmax (pc := 67) C (by decide) (Nat.le_of_ble_eq_true rfl) wm_X5_67 wS_J9_max_7cf53 wi_J9 wC_J9_max_7cf53 dX5_drawPrices_67 ?_
        refine g_iast (pc := 70) C (kf_5_1 ht) dX5_drawPrices_70 ?_
        refine g_ltM (fun M4 => ?_)
        refine g_iinc (pc := 71) (j := 3) (lv' := [(3, .int (x3 + (1 : Int32))), (4, .int v3), (0, .ref (xad X t)), (2, .int x2)]) C dX5_drawPrices_71 rfl (ii_1 _) (by decide) rfl ?_
        refine g_goto (pc := 74) (tgt := 9) C dX5_drawPrices_74 (by decide) ?_
        refine g_sub (lv' := [(0, .ref (xad X t)), (2, .int x2), (3, .int (x3 + (1 : Int32)))]) [2, 3, 0] rfl ?_
        exact hk9 x2 (x3 + (1 : Int32)) M4
    · refine g_aload_n (pc := 25) C dX5_drawPrices_25 rfl 1 rfl ?_
      refine gf_X5_15 (pc := 26) C ht rfl dX5_drawPrices_26 ?_
      refine g_iload_n (pc := 29) C dX5_drawPrices_29 rfl 3 rfl ?_
      refine g_bipush (pc := 30) C dX5_drawPrices_30 ic_bipush_99 ?_
      refine g_aload_n (pc := 32) C dX5_drawPrices_32 rfl 1 rfl ?_
      refine gf_X5_15 (pc := 33) C ht rfl dX5_drawPrices_33 ?_
      refine g_iload_n (pc := 36) C dX5_drawPrices_36 rfl 3 rfl ?_
      refine g_iald (pc := 37) C (kf_5_1 ht) dX5_drawPrices_37 ?_
      refine g_iconst (pc := 38) C dX5_drawPrices_38 ic_iconst_1 ?_
      refine g_iadd (pc := 39) C dX5_drawPrices_39 ?_
      refine g_mmin (pc := 40) C (by decide) (Nat.le_of_ble_eq_true rfl) wm_X5_46 wS_J9_min_7cf53 wi_J9 wC_J9_min_7cf53 dX5_drawPrices_40 ?_
      refine g_iast (pc := 43) C (kf_5_1 ht) dX5_drawPrices_43 ?_
      refine g_ltM (fun M5 => ?_)
      refine g_goto (pc := 44) (tgt := 71) C dX5_drawPrices_44 (by decide) ?_
      refine g_iinc (pc := 71) (j := 3) (lv' := [(3, .int (x3 + (1 : Int32))), (4, .int v3), (0, .ref (xad X t)), (2, .int x2)]) C dX5_drawPrices_71 rfl (ii_1 _) (by decide) rfl ?_
      refine g_goto (pc := 74) (tgt := 9) C dX5_drawPrices_74 (by decide) ?_
      refine g_sub (lv' := [(0, .ref (xad X t)), (2, .int x2), (3, .int (x3 + (1 : Int32)))]) [2, 3, 0] rfl ?_
      exact hk9 x2 (x3 + (1 : Int32)) M5

theorem g_X5_drawPrices_h9 {X : gX} (C : gC X cX5_drawPrices RX5 5 none 1 20) (F : Nat) (t : Nat) (a0 : Int32) (ht : kd t = gKo 5) : ∀ (n : Nat) (x2 : Int32) (x3 : Int32) (M : gM), G X (gQm X rvV rMV) 5 M [(0, .ref (xad X t)), (2, .int x2), (3, .int x3)] [] 9 (f_X5_drawPrices_h9 F t a0 n x2 x3 M) := by
  intro n
  induction n with
  | zero =>
    intro x2 x3 M r hr
    have hr2 : (none : Option gM) = some r := hr
    cases hr2
  | succ n ih =>
    intro x2 x3 M
    exact g_X5_drawPrices_h9_b C F t a0 ht _ ih x2 x3 M
set_option maxRecDepth 100000 in
set_option maxHeartbeats 4000000 in
theorem c_X5_drawPrices (F : Nat) (t : Nat) (a0 : Int32) (ht : kd t = gKo 5) (M : gM) : gCt yX5_drawPrices cX5_drawPrices 5 none 1 20 (fun ad K V => [.ref (ad t), .int a0]) rvV rMV M (f_X5_drawPrices F t a0 M) := by
  refine g_met (y := yX5_drawPrices) (by decide +kernel) (fun _ _ _ => Nat.le_of_ble_eq_true rfl) (fun X C => ?_)
  show G X (gQm X rvV rMV) 5 M [(0, .ref (xad X t)), (1, .int a0)] [] 0 (f_X5_drawPrices F t a0 M)
  unfold f_X5_drawPrices
  refine g_iload_n (pc := 0) C dX5_drawPrices_0 rfl 1 rfl ?_
  refine g_bipush (pc := 1) C dX5_drawPrices_1 ic_bipush_10 ?_
  refine g_mmin (pc := 3) C (by decide) (Nat.le_of_ble_eq_true rfl) wm_X5_46 wS_J9_min_7cf53 wi_J9 wC_J9_min_7cf53 dX5_drawPrices_3 ?_
  refine g_lt (fun v1 => ?_)
  refine g_istore_n (pc := 6) (lv' := [(2, .int v1), (0, .ref (xad X t)), (1, .int a0)]) C dX5_drawPrices_6 rfl (by decide) rfl ?_
  refine g_iconst (pc := 7) C dX5_drawPrices_7 ic_iconst_0 ?_
  refine g_istore_n (pc := 8) (lv' := [(3, .int (0 : Int32)), (2, .int v1), (0, .ref (xad X t)), (1, .int a0)]) C dX5_drawPrices_8 rfl (by decide) rfl ?_
  refine g_sub (lv' := [(0, .ref (xad X t)), (2, .int v1), (3, .int (0 : Int32))]) [2, 1, 0] rfl ?_
  exact g_X5_drawPrices_h9 C F t a0 ht F v1 (0 : Int32) M

/-! X5_raisePrices -/
set_option maxRecDepth 100000 in
set_option maxHeartbeats 4000000 in
theorem g_X5_raisePrices_h12_b {X : gX} (C : gC X cX5_raisePrices RX5 6 none 1 21) (F : Nat) (t : Nat) (a0 : Int32) (a1 : Int32) (a2 : Nat) (na2 : Nat) (ht : kd t = gKo 5) (ha2 : kd a2 = gKi na2) (k12 : Int32 → Int32 → gM → Option gM) (hk12 : ∀ (x4 : Int32) (x5 : Int32) (M : gM), G X (gQm X rvV rMV) 6 M [(0, .ref (xad X t)), (1, .int a0), (2, .int a1), (3, .ref (xad X a2)), (4, .int x4), (5, .int x5)] [] 12 (k12 x4 x5 M)) (x4 : Int32) (x5 : Int32) (M : gM) : G X (gQm X rvV rMV) 6 M [(0, .ref (xad X t)), (1, .int a0), (2, .int a1), (3, .ref (xad X a2)), (4, .int x4), (5, .int x5)] [] 12 (f_X5_raisePrices_h12_b F t a0 a1 a2 na2 k12 x4 x5 M) := by
  unfold f_X5_raisePrices_h12_b
  refine g_iload (pc := 12) C dX5_raisePrices_12 5 rfl ?_
  refine g_iload (pc := 14) C dX5_raisePrices_14 4 rfl ?_
  refine g_icmp_ge (pc := 16) (tgt := 62) C dX5_raisePrices_16 (by decide) ?_ ?_
  · exact g_vret (pc := 62) C dX5_raisePrices_62 rfl rfl
  · refine g_aload_n (pc := 19) C dX5_raisePrices_19 rfl 3 rfl ?_
    refine g_iload (pc := 20) C dX5_raisePrices_20 5 rfl ?_
    refine g_iload_n (pc := 22) C dX5_raisePrices_22 rfl 1 rfl ?_
    refine g_iload (pc := 23) C dX5_raisePrices_23 5 rfl ?_
    refine g_callR (pc := 25) C (g_runSN (stk := [.int x5, .ref (xad X a2)]) C (c_X8_has a0 x5 M) rfl rfl rfl wC_X8_has wS_X8_has wi_X8 wnm_X5_52 hy_X8_has (by decide) (Nat.le_of_ble_eq_true rfl) dX5_raisePrices_25) (fun r2 => ?_)
    refine g_if_eq (pc := 28) (tgt := 48) C dX5_raisePrices_28 (by decide) ?_ ?_
    · refine g_aload_n (pc := 48) C dX5_raisePrices_48 rfl 0 rfl ?_
      refine gf_X5_15 (pc := 49) C ht rfl dX5_raisePrices_49 ?_
      refine g_iload (pc := 52) C dX5_raisePrices_52 5 rfl ?_
      refine g_iald (pc := 54) C (kf_5_1 ht) dX5_raisePrices_54 ?_
      refine g_iast (pc := 55) C ha2 dX5_raisePrices_55 ?_
      refine g_ltM (fun M3 => ?_)
      refine g_iinc (pc := 56) (j := 5) (lv' := [(5, .int (x5 + (1 : Int32))), (0, .ref (xad X t)), (1, .int a0), (2, .int a1), (3, .ref (xad X a2)), (4, .int x4)]) C dX5_raisePrices_56 rfl (ii_1 _) (by decide) rfl ?_
      refine g_goto (pc := 59) (tgt := 12) C dX5_raisePrices_59 (by decide) ?_
      refine g_sub (lv' := [(0, .ref (xad X t)), (1, .int a0), (2, .int a1), (3, .ref (xad X a2)), (4, .int x4), (5, .int (x5 + (1 : Int32)))]) [1, 2, 3, 4, 5, 0] rfl ?_
      exact hk12 x4 (x5 + (1 : Int32)) M3
    · refine g_bipush (pc := 31) C dX5_raisePrices_31 ic_bipush_99 ?_
      refine g_aload_n (pc := 33) C dX5_raisePrices_33 rfl 0 rfl ?_
      refine gf_X5_15 (pc := 34) C ht rfl dX5_raisePrices_34 ?_
      refine g_iload (pc := 37) C dX5_raisePrices_37 5 rfl ?_
      refine g_iald (pc := 39) C (kf_5_1 ht) dX5_raisePrices_39 ?_
      refine g_iload_n (pc := 40) C dX5_raisePrices_40 rfl 2 rfl ?_
      refine g_iadd (pc := 41) C dX5_raisePrices_41 ?_
      refine g_mmin (pc := 42) C (by decide) (Nat.le_of_ble_eq_true rfl) wm_X5_46 wS_J9_min_7cf53 wi_J9 wC_J9_min_7cf53 dX5_raisePrices_42 ?_
      refine g_goto (pc := 45) (tgt := 55) C dX5_raisePrices_45 (by decide) ?_
      refine g_iast (pc := 55) C ha2 dX5_raisePrices_55 ?_
      refine g_ltM (fun M4 => ?_)
      refine g_iinc (pc := 56) (j := 5) (lv' := [(5, .int (x5 + (1 : Int32))), (0, .ref (xad X t)), (1, .int a0), (2, .int a1), (3, .ref (xad X a2)), (4, .int x4)]) C dX5_raisePrices_56 rfl (ii_1 _) (by decide) rfl ?_
      refine g_goto (pc := 59) (tgt := 12) C dX5_raisePrices_59 (by decide) ?_
      refine g_sub (lv' := [(0, .ref (xad X t)), (1, .int a0), (2, .int a1), (3, .ref (xad X a2)), (4, .int x4), (5, .int (x5 + (1 : Int32)))]) [1, 2, 3, 4, 5, 0] rfl ?_
      exact hk12 x4 (x5 + (1 : Int32)) M4

theorem g_X5_raisePrices_h12 {X : gX} (C : gC X cX5_raisePrices RX5 6 none 1 21) (F : Nat) (t : Nat) (a0 : Int32) (a1 : Int32) (a2 : Nat) (na2 : Nat) (ht : kd t = gKo 5) (ha2 : kd a2 = gKi na2) : ∀ (n : Nat) (x4 : Int32) (x5 : Int32) (M : gM), G X (gQm X rvV rMV) 6 M [(0, .ref (xad X t)), (1, .int a0), (2, .int a1), (3, .ref (xad X a2)), (4, .int x4), (5, .int x5)] [] 12 (f_X5_raisePrices_h12 F t a0 a1 a2 na2 n x4 x5 M) := by
  intro n
  induction n with
  | zero =>
    intro x4 x5 M r hr
    have hr2 : (none : Option gM) = some r := hr
    cases hr2
  | succ n ih =>
    intro x4 x5 M
    exact g_X5_raisePrices_h12_b C F t a0 a1 a2 na2 ht ha2 _ ih x4 x5 M
set_option maxRecDepth 100000 in
set_option maxHeartbeats 4000000 in
theorem c_X5_raisePrices (F : Nat) (t : Nat) (a0 : Int32) (a1 : Int32) (a2 : Nat) (na2 : Nat) (ht : kd t = gKo 5) (ha2 : kd a2 = gKi na2) (M : gM) : gCt yX5_raisePrices cX5_raisePrices 6 none 1 21 (fun ad K V => [.ref (ad t), .int a0, .int a1, .ref (ad a2)]) rvV rMV M (f_X5_raisePrices F t a0 a1 a2 na2 M) := by
  refine g_met (y := yX5_raisePrices) (by decide +kernel) (fun _ _ _ => Nat.le_of_ble_eq_true rfl) (fun X C => ?_)
  show G X (gQm X rvV rMV) 6 M [(0, .ref (xad X t)), (1, .int a0), (2, .int a1), (3, .ref (xad X a2))] [] 0 (f_X5_raisePrices F t a0 a1 a2 na2 M)
  unfold f_X5_raisePrices
  refine g_aload_n (pc := 0) C dX5_raisePrices_0 rfl 3 rfl ?_
  refine g_alen (pc := 1) C ha2 rfl dX5_raisePrices_1 ?_
  refine g_bipush (pc := 2) C dX5_raisePrices_2 ic_bipush_10 ?_
  refine g_mmin (pc := 4) C (by decide) (Nat.le_of_ble_eq_true rfl) wm_X5_46 wS_J9_min_7cf53 wi_J9 wC_J9_min_7cf53 dX5_raisePrices_4 ?_
  refine g_lt (fun v1 => ?_)
  refine g_istore (pc := 7) (lv' := [(4, .int v1), (0, .ref (xad X t)), (1, .int a0), (2, .int a1), (3, .ref (xad X a2))]) C dX5_raisePrices_7 (by decide) rfl ?_
  refine g_iconst (pc := 9) C dX5_raisePrices_9 ic_iconst_0 ?_
  refine g_istore (pc := 10) (lv' := [(5, .int (0 : Int32)), (4, .int v1), (0, .ref (xad X t)), (1, .int a0), (2, .int a1), (3, .ref (xad X a2))]) C dX5_raisePrices_10 (by decide) rfl ?_
  refine g_sub (lv' := [(0, .ref (xad X t)), (1, .int a0), (2, .int a1), (3, .ref (xad X a2)), (4, .int v1), (5, .int (0 : Int32))]) [2, 3, 4, 5, 1, 0] rfl ?_
  exact g_X5_raisePrices_h12 C F t a0 a1 a2 na2 ht ha2 F v1 (0 : Int32) M

/-! X5_wearHour -/
set_option maxRecDepth 100000 in
set_option maxHeartbeats 4000000 in
theorem g_X5_wearHour_h2_b {X : gX} (C : gC X cX5_wearHour RX5 3 none 1 21) (F : Nat) (t : Nat) (a0 : Int32) (ht : kd t = gKo 5) (k2 : Int32 → gM → Option gM) (hk2 : ∀ (x2 : Int32) (M : gM), G X (gQm X rvV rMV) 3 M [(0, .ref (xad X t)), (1, .int a0), (2, .int x2)] [] 2 (k2 x2 M)) (x2 : Int32) (M : gM) : G X (gQm X rvV rMV) 3 M [(0, .ref (xad X t)), (1, .int a0), (2, .int x2)] [] 2 (f_X5_wearHour_h2_b F t a0 k2 x2 M) := by
  unfold f_X5_wearHour_h2_b
  refine g_iload_n (pc := 2) C dX5_wearHour_2 rfl 2 rfl ?_
  refine g_bipush (pc := 3) C dX5_wearHour_3 ic_bipush_10 ?_
  refine g_icmp_ge (pc := 5) (tgt := 32) C dX5_wearHour_5 (by decide) ?_ ?_
  · exact g_vret (pc := 32) C dX5_wearHour_32 rfl rfl
  · refine g_iload_n (pc := 8) C dX5_wearHour_8 rfl 1 rfl ?_
    refine g_iload_n (pc := 9) C dX5_wearHour_9 rfl 2 rfl ?_
    refine g_callR (pc := 10) C (g_runSN (stk := []) C (c_X8_has a0 x2 M) rfl rfl rfl wC_X8_has wS_X8_has wi_X8 wnm_X5_52 hy_X8_has (by decide) (Nat.le_of_ble_eq_true rfl) dX5_wearHour_10) (fun r1 => ?_)
    refine g_if_eq (pc := 13) (tgt := 26) C dX5_wearHour_13 (by decide) ?_ ?_
    · refine g_iinc (pc := 26) (j := 2) (lv' := [(2, .int (x2 + (1 : Int32))), (0, .ref (xad X t)), (1, .int a0)]) C dX5_wearHour_26 rfl (ii_1 _) (by decide) rfl ?_
      refine g_goto (pc := 29) (tgt := 2) C dX5_wearHour_29 (by decide) ?_
      refine g_sub (lv' := [(0, .ref (xad X t)), (1, .int a0), (2, .int (x2 + (1 : Int32)))]) [1, 2, 0] rfl ?_
      exact hk2 (x2 + (1 : Int32)) M
    · refine g_aload_n (pc := 16) C dX5_wearHour_16 rfl 0 rfl ?_
      refine gf_X5_18 (pc := 17) C ht rfl dX5_wearHour_17 ?_
      refine g_iload_n (pc := 20) C dX5_wearHour_20 rfl 2 rfl ?_
      refine g_dup2 (pc := 21) C dX5_wearHour_21 rfl rfl ?_
      refine g_iald (pc := 22) C (kf_5_2 ht) dX5_wearHour_22 ?_
      refine g_iconst (pc := 23) C dX5_wearHour_23 ic_iconst_1 ?_
      refine g_iadd (pc := 24) C dX5_wearHour_24 ?_
      refine g_iast (pc := 25) C (kf_5_2 ht) dX5_wearHour_25 ?_
      refine g_ltM (fun M2 => ?_)
      refine g_iinc (pc := 26) (j := 2) (lv' := [(2, .int (x2 + (1 : Int32))), (0, .ref (xad X t)), (1, .int a0)]) C dX5_wearHour_26 rfl (ii_1 _) (by decide) rfl ?_
      refine g_goto (pc := 29) (tgt := 2) C dX5_wearHour_29 (by decide) ?_
      refine g_sub (lv' := [(0, .ref (xad X t)), (1, .int a0), (2, .int (x2 + (1 : Int32)))]) [1, 2, 0] rfl ?_
      exact hk2 (x2 + (1 : Int32)) M2

theorem g_X5_wearHour_h2 {X : gX} (C : gC X cX5_wearHour RX5 3 none 1 21) (F : Nat) (t : Nat) (a0 : Int32) (ht : kd t = gKo 5) : ∀ (n : Nat) (x2 : Int32) (M : gM), G X (gQm X rvV rMV) 3 M [(0, .ref (xad X t)), (1, .int a0), (2, .int x2)] [] 2 (f_X5_wearHour_h2 F t a0 n x2 M) := by
  intro n
  induction n with
  | zero =>
    intro x2 M r hr
    have hr2 : (none : Option gM) = some r := hr
    cases hr2
  | succ n ih =>
    intro x2 M
    exact g_X5_wearHour_h2_b C F t a0 ht _ ih x2 M
set_option maxRecDepth 100000 in
set_option maxHeartbeats 4000000 in
theorem c_X5_wearHour (F : Nat) (t : Nat) (a0 : Int32) (ht : kd t = gKo 5) (M : gM) : gCt yX5_wearHour cX5_wearHour 3 none 1 21 (fun ad K V => [.ref (ad t), .int a0]) rvV rMV M (f_X5_wearHour F t a0 M) := by
  refine g_met (y := yX5_wearHour) (by decide +kernel) (fun _ _ _ => Nat.le_of_ble_eq_true rfl) (fun X C => ?_)
  show G X (gQm X rvV rMV) 3 M [(0, .ref (xad X t)), (1, .int a0)] [] 0 (f_X5_wearHour F t a0 M)
  unfold f_X5_wearHour
  refine g_iconst (pc := 0) C dX5_wearHour_0 ic_iconst_0 ?_
  refine g_istore_n (pc := 1) (lv' := [(2, .int (0 : Int32)), (0, .ref (xad X t)), (1, .int a0)]) C dX5_wearHour_1 rfl (by decide) rfl ?_
  refine g_sub (lv' := [(0, .ref (xad X t)), (1, .int a0), (2, .int (0 : Int32))]) [1, 2, 0] rfl ?_
  exact g_X5_wearHour_h2 C F t a0 ht F (0 : Int32) M

/-! X5_wearOut -/
set_option maxRecDepth 100000 in
set_option maxHeartbeats 4000000 in
theorem g_X5_wearOut_h8_b {X : gX} (C : gC X cX5_wearOut RX5 2 none 1 19) (F : Nat) (t : Nat) (ht : kd t = gKo 5) (k2 : Int32 → gM → Option gM) (hk2 : ∀ (x1 : Int32) (M : gM), G X (gQm X rvV rMV) 2 M [(0, .ref (xad X t)), (1, .int x1)] [] 2 (k2 x1 M)) (k8 : Int32 → gM → Option gM) (hk8 : ∀ (x1 : Int32) (M : gM), G X (gQm X rvV rMV) 2 M [(0, .ref (xad X t)), (1, .int x1)] [] 8 (k8 x1 M)) (x1 : Int32) (M : gM) : G X (gQm X rvV rMV) 2 M [(0, .ref (xad X t)), (1, .int x1)] [] 8 (f_X5_wearOut_h8_b F t k2 k8 x1 M) := by
  unfold f_X5_wearOut_h8_b
  refine g_aload_n (pc := 8) C dX5_wearOut_8 rfl 0 rfl ?_
  refine gf_X5_18 (pc := 9) C ht rfl dX5_wearOut_9 ?_
  refine g_iload_n (pc := 12) C dX5_wearOut_12 rfl 1 rfl ?_
  refine g_iald (pc := 13) C (kf_5_2 ht) dX5_wearOut_13 ?_
  refine g_bipush (pc := 14) C dX5_wearOut_14 ic_bipush_10 ?_
  refine g_icmp_lt (pc := 16) (tgt := 51) C dX5_wearOut_16 (by decide) ?_ ?_
  · refine g_iinc (pc := 51) (j := 1) (lv' := [(1, .int (x1 + (1 : Int32))), (0, .ref (xad X t))]) C dX5_wearOut_51 rfl (ii_1 _) (by decide) rfl ?_
    refine g_goto (pc := 54) (tgt := 2) C dX5_wearOut_54 (by decide) ?_
    refine g_sub (lv' := [(0, .ref (xad X t)), (1, .int (x1 + (1 : Int32)))]) [1, 0] rfl ?_
    exact hk2 (x1 + (1 : Int32)) M
  · refine g_aload_n (pc := 19) C dX5_wearOut_19 rfl 0 rfl ?_
    refine gf_X5_18 (pc := 20) C ht rfl dX5_wearOut_20 ?_
    refine g_iload_n (pc := 23) C dX5_wearOut_23 rfl 1 rfl ?_
    refine g_dup2 (pc := 24) C dX5_wearOut_24 rfl rfl ?_
    refine g_iald (pc := 25) C (kf_5_2 ht) dX5_wearOut_25 ?_
    refine g_bipush (pc := 26) C dX5_wearOut_26 ic_bipush_10 ?_
    refine g_isub (pc := 28) C dX5_wearOut_28 ?_
    refine g_iast (pc := 29) C (kf_5_2 ht) dX5_wearOut_29 ?_
    refine g_ltM (fun M1 => ?_)
    refine g_aload_n (pc := 30) C dX5_wearOut_30 rfl 0 rfl ?_
    refine gf_X5_9 (pc := 31) C ht rfl dX5_wearOut_31 ?_
    refine g_iload_n (pc := 34) C dX5_wearOut_34 rfl 1 rfl ?_
    refine g_iconst (pc := 35) C dX5_wearOut_35 ic_iconst_0 ?_
    refine g_aload_n (pc := 36) C dX5_wearOut_36 rfl 0 rfl ?_
    refine gf_X5_9 (pc := 37) C ht rfl dX5_wearOut_37 ?_
    refine g_iload_n (pc := 40) C dX5_wearOut_40 rfl 1 rfl ?_
    refine g_iald (pc := 41) C (kf_5_0 ht) dX5_wearOut_41 ?_
    refine g_iconst (pc := 42) C dX5_wearOut_42 ic_iconst_1 ?_
    refine g_isub (pc := 43) C dX5_wearOut_43 ?_
    refine g_mmax (pc := 44) C (by decide) (Nat.le_of_ble_eq_true rfl) wm_X5_67 wS_J9_max_7cf53 wi_J9 wC_J9_max_7cf53 dX5_wearOut_44 ?_
    refine g_iast (pc := 47) C (kf_5_0 ht) dX5_wearOut_47 ?_
    refine g_ltM (fun M2 => ?_)
    refine g_goto (pc := 48) (tgt := 8) C dX5_wearOut_48 (by decide) ?_
    exact hk8 x1 M2

theorem g_X5_wearOut_h8 {X : gX} (C : gC X cX5_wearOut RX5 2 none 1 19) (F : Nat) (t : Nat) (ht : kd t = gKo 5) (k2 : Int32 → gM → Option gM) (hk2 : ∀ (x1 : Int32) (M : gM), G X (gQm X rvV rMV) 2 M [(0, .ref (xad X t)), (1, .int x1)] [] 2 (k2 x1 M)) : ∀ (n : Nat) (x1 : Int32) (M : gM), G X (gQm X rvV rMV) 2 M [(0, .ref (xad X t)), (1, .int x1)] [] 8 (f_X5_wearOut_h8 F t k2 n x1 M) := by
  intro n
  induction n with
  | zero =>
    intro x1 M r hr
    have hr2 : (none : Option gM) = some r := hr
    cases hr2
  | succ n ih =>
    intro x1 M
    exact g_X5_wearOut_h8_b C F t ht k2 hk2 _ ih x1 M
set_option maxRecDepth 100000 in
set_option maxHeartbeats 4000000 in
theorem g_X5_wearOut_h2_b {X : gX} (C : gC X cX5_wearOut RX5 2 none 1 19) (F : Nat) (t : Nat) (ht : kd t = gKo 5) (k2 : Int32 → gM → Option gM) (hk2 : ∀ (x1 : Int32) (M : gM), G X (gQm X rvV rMV) 2 M [(0, .ref (xad X t)), (1, .int x1)] [] 2 (k2 x1 M)) (x1 : Int32) (M : gM) : G X (gQm X rvV rMV) 2 M [(0, .ref (xad X t)), (1, .int x1)] [] 2 (f_X5_wearOut_h2_b F t k2 x1 M) := by
  unfold f_X5_wearOut_h2_b
  refine g_iload_n (pc := 2) C dX5_wearOut_2 rfl 1 rfl ?_
  refine g_bipush (pc := 3) C dX5_wearOut_3 ic_bipush_10 ?_
  refine g_icmp_ge (pc := 5) (tgt := 57) C dX5_wearOut_5 (by decide) ?_ ?_
  · exact g_vret (pc := 57) C dX5_wearOut_57 rfl rfl
  · exact g_X5_wearOut_h8 C F t ht k2 hk2 F x1 M

theorem g_X5_wearOut_h2 {X : gX} (C : gC X cX5_wearOut RX5 2 none 1 19) (F : Nat) (t : Nat) (ht : kd t = gKo 5) : ∀ (n : Nat) (x1 : Int32) (M : gM), G X (gQm X rvV rMV) 2 M [(0, .ref (xad X t)), (1, .int x1)] [] 2 (f_X5_wearOut_h2 F t n x1 M) := by
  intro n
  induction n with
  | zero =>
    intro x1 M r hr
    have hr2 : (none : Option gM) = some r := hr
    cases hr2
  | succ n ih =>
    intro x1 M
    exact g_X5_wearOut_h2_b C F t ht _ ih x1 M
set_option maxRecDepth 100000 in
set_option maxHeartbeats 4000000 in
theorem c_X5_wearOut (F : Nat) (t : Nat) (ht : kd t = gKo 5) (M : gM) : gCt yX5_wearOut cX5_wearOut 2 none 1 19 (fun ad K V => [.ref (ad t)]) rvV rMV M (f_X5_wearOut F t M) := by
  refine g_met (y := yX5_wearOut) (by decide +kernel) (fun _ _ _ => Nat.le_of_ble_eq_true rfl) (fun X C => ?_)
  show G X (gQm X rvV rMV) 2 M [(0, .ref (xad X t))] [] 0 (f_X5_wearOut F t M)
  unfold f_X5_wearOut
  refine g_iconst (pc := 0) C dX5_wearOut_0 ic_iconst_0 ?_
  refine g_istore_n (pc := 1) (lv' := [(1, .int (0 : Int32)), (0, .ref (xad X t))]) C dX5_wearOut_1 rfl (by decide) rfl ?_
  refine g_sub (lv' := [(0, .ref (xad X t)), (1, .int (0 : Int32))]) [1, 0] rfl ?_
  exact g_X5_wearOut_h2 C F t ht F (0 : Int32) M

/-! X6_add -/
set_option maxRecDepth 100000 in
set_option maxHeartbeats 4000000 in
theorem c_X6_add (a0 : Int32)  (M : gM) : gCt yX6_add cX6_add 2 none 0 0 (fun ad K V => [.ref (ad 1), .int a0]) rvV rMV M (f_X6_add a0 M) := by
  refine g_met (y := yX6_add) (by decide +kernel) (fun _ _ _ => Nat.le_of_ble_eq_true rfl) (fun X C => ?_)
  show G X (gQm X rvV rMV) 2 M [(0, .ref (xad X 1)), (1, .int a0)] [] 0 (f_X6_add a0 M)
  unfold f_X6_add
  refine g_aload_n (pc := 0) C dX6_add_0 rfl 0 rfl ?_
  refine gf_X6_15 (pc := 1) C kd_1 dX6_add_1 ?_
  refine g_sipush (pc := 4) C dX6_add_4 ic_sipush_400 ?_
  refine g_icmp_ge (pc := 7) (tgt := 30) C dX6_add_7 (by decide) ?_ ?_
  · exact g_vret (pc := 30) C dX6_add_30 rfl rfl
  · refine g_aload_n (pc := 10) C dX6_add_10 rfl 0 rfl ?_
    refine gf_X6_9 (pc := 11) (u := 2) C kd_1 rfl dX6_add_11 ?_
    refine g_aload_n (pc := 14) C dX6_add_14 rfl 0 rfl ?_
    refine gf_X6_15 (pc := 15) C kd_1 dX6_add_15 ?_
    refine g_iload_n (pc := 18) C dX6_add_18 rfl 1 rfl ?_
    refine g_iast (pc := 19) C kd_2 dX6_add_19 ?_
    refine g_ltM (fun M1 => ?_)
    refine g_aload_n (pc := 20) C dX6_add_20 rfl 0 rfl ?_
    refine g_dup (pc := 21) C dX6_add_21 rfl ?_
    refine gf_X6_15 (pc := 22) C kd_1 dX6_add_22 ?_
    refine g_iconst (pc := 25) C dX6_add_25 ic_iconst_1 ?_
    refine g_iadd (pc := 26) C dX6_add_26 ?_
    refine gp_X6_15 (pc := 27) C kd_1 dX6_add_27 ?_
    refine g_ltM (fun M2 => ?_)
    exact g_vret (pc := 30) C dX6_add_30 rfl rfl

/-! X7_copyFrom -/
set_option maxRecDepth 100000 in
set_option maxHeartbeats 4000000 in
theorem c_X7_copyFrom (F : Nat) (t : Nat) (a0 : Nat) (ht : kd t = gKo 7) (ha0 : kd a0 = gKo 7) (M : gM) : gCt yX7_copyFrom cX7_copyFrom 2 none 2 42 (fun ad K V => [.ref (ad t), .ref (ad a0)]) rvV rMV M (f_X7_copyFrom F t a0 M) := by
  refine g_met (y := yX7_copyFrom) (by decide +kernel) (fun _ _ _ => Nat.le_of_ble_eq_true rfl) (fun X C => ?_)
  show G X (gQm X rvV rMV) 2 M [(0, .ref (xad X t)), (1, .ref (xad X a0))] [] 0 (f_X7_copyFrom F t a0 M)
  unfold f_X7_copyFrom
  refine g_aload_n (pc := 0) C dX7_copyFrom_0 rfl 1 rfl ?_
  refine gf_X7_9 (pc := 1) C ha0 rfl dX7_copyFrom_1 ?_
  refine g_aload_n (pc := 4) C dX7_copyFrom_4 rfl 0 rfl ?_
  refine gf_X7_9 (pc := 5) C ht rfl dX7_copyFrom_5 ?_
  refine g_callV (pc := 8) C (g_runSN (stk := []) C (c_X8_copyRow F (rf a0 0) 10 (rf t 0) 10 (kf_7_0 ha0) (kf_7_0 ht) M) rfl rfl rfl wC_X8_copyRow wS_X8_copyRow wi_X8 wnm_X7_60 hy_X8_copyRow (by decide) (Nat.le_of_ble_eq_true rfl) dX7_copyFrom_8) (fun r1 => ?_)
  refine g_aload_n (pc := 11) C dX7_copyFrom_11 rfl 1 rfl ?_
  refine gf_X7_15 (pc := 12) C ha0 rfl dX7_copyFrom_12 ?_
  refine g_aload_n (pc := 15) C dX7_copyFrom_15 rfl 0 rfl ?_
  refine gf_X7_15 (pc := 16) C ht rfl dX7_copyFrom_16 ?_
  refine g_callV (pc := 19) C (g_runSN (stk := []) C (c_X8_copyRow F (rf a0 1) 10 (rf t 1) 10 (kf_7_1 ha0) (kf_7_1 ht) r1) rfl rfl rfl wC_X8_copyRow wS_X8_copyRow wi_X8 wnm_X7_60 hy_X8_copyRow (by decide) (Nat.le_of_ble_eq_true rfl) dX7_copyFrom_19) (fun r2 => ?_)
  refine g_aload_n (pc := 22) C dX7_copyFrom_22 rfl 1 rfl ?_
  refine gf_X7_18 (pc := 23) C ha0 rfl dX7_copyFrom_23 ?_
  refine g_aload_n (pc := 26) C dX7_copyFrom_26 rfl 0 rfl ?_
  refine gf_X7_18 (pc := 27) C ht rfl dX7_copyFrom_27 ?_
  refine g_callV (pc := 30) C (g_runSN (stk := []) C (c_X8_copyRow F (rf a0 2) 10 (rf t 2) 10 (kf_7_2 ha0) (kf_7_2 ht) r2) rfl rfl rfl wC_X8_copyRow wS_X8_copyRow wi_X8 wnm_X7_60 hy_X8_copyRow (by decide) (Nat.le_of_ble_eq_true rfl) dX7_copyFrom_30) (fun r3 => ?_)
  refine g_aload_n (pc := 33) C dX7_copyFrom_33 rfl 1 rfl ?_
  refine gf_X7_21 (pc := 34) C ha0 rfl dX7_copyFrom_34 ?_
  refine g_aload_n (pc := 37) C dX7_copyFrom_37 rfl 0 rfl ?_
  refine gf_X7_21 (pc := 38) C ht rfl dX7_copyFrom_38 ?_
  refine g_callV (pc := 41) C (g_runSN (stk := []) C (c_X8_copyRow F (rf a0 3) 10 (rf t 3) 10 (kf_7_3 ha0) (kf_7_3 ht) r3) rfl rfl rfl wC_X8_copyRow wS_X8_copyRow wi_X8 wnm_X7_60 hy_X8_copyRow (by decide) (Nat.le_of_ble_eq_true rfl) dX7_copyFrom_41) (fun r4 => ?_)
  refine g_aload_n (pc := 44) C dX7_copyFrom_44 rfl 1 rfl ?_
  refine gf_X7_24 (pc := 45) C ha0 rfl dX7_copyFrom_45 ?_
  refine g_aload_n (pc := 48) C dX7_copyFrom_48 rfl 0 rfl ?_
  refine gf_X7_24 (pc := 49) C ht rfl dX7_copyFrom_49 ?_
  refine g_callV (pc := 52) C (g_runSN (stk := []) C (c_X8_copyRow F (rf a0 4) 10 (rf t 4) 10 (kf_7_4 ha0) (kf_7_4 ht) r4) rfl rfl rfl wC_X8_copyRow wS_X8_copyRow wi_X8 wnm_X7_60 hy_X8_copyRow (by decide) (Nat.le_of_ble_eq_true rfl) dX7_copyFrom_52) (fun r5 => ?_)
  refine g_aload_n (pc := 55) C dX7_copyFrom_55 rfl 1 rfl ?_
  refine gf_X7_27 (pc := 56) C ha0 rfl dX7_copyFrom_56 ?_
  refine g_aload_n (pc := 59) C dX7_copyFrom_59 rfl 0 rfl ?_
  refine gf_X7_27 (pc := 60) C ht rfl dX7_copyFrom_60 ?_
  refine g_callV (pc := 63) C (g_runSN (stk := []) C (c_X8_copyRow F (rf a0 5) 10 (rf t 5) 10 (kf_7_5 ha0) (kf_7_5 ht) r5) rfl rfl rfl wC_X8_copyRow wS_X8_copyRow wi_X8 wnm_X7_60 hy_X8_copyRow (by decide) (Nat.le_of_ble_eq_true rfl) dX7_copyFrom_63) (fun r6 => ?_)
  refine g_aload_n (pc := 66) C dX7_copyFrom_66 rfl 1 rfl ?_
  refine gf_X7_30 (pc := 67) C ha0 rfl dX7_copyFrom_67 ?_
  refine g_aload_n (pc := 70) C dX7_copyFrom_70 rfl 0 rfl ?_
  refine gf_X7_30 (pc := 71) C ht rfl dX7_copyFrom_71 ?_
  refine g_callV (pc := 74) C (g_runSN (stk := []) C (c_X8_copyRow F (rf a0 6) 10 (rf t 6) 10 (kf_7_6 ha0) (kf_7_6 ht) r6) rfl rfl rfl wC_X8_copyRow wS_X8_copyRow wi_X8 wnm_X7_60 hy_X8_copyRow (by decide) (Nat.le_of_ble_eq_true rfl) dX7_copyFrom_74) (fun r7 => ?_)
  refine g_aload_n (pc := 77) C dX7_copyFrom_77 rfl 1 rfl ?_
  refine gf_X7_33 (pc := 78) C ha0 rfl dX7_copyFrom_78 ?_
  refine g_aload_n (pc := 81) C dX7_copyFrom_81 rfl 0 rfl ?_
  refine gf_X7_33 (pc := 82) C ht rfl dX7_copyFrom_82 ?_
  refine g_callV (pc := 85) C (g_runSN (stk := []) C (c_X8_copyRow F (rf a0 7) 8 (rf t 7) 8 (kf_7_7 ha0) (kf_7_7 ht) r7) rfl rfl rfl wC_X8_copyRow wS_X8_copyRow wi_X8 wnm_X7_60 hy_X8_copyRow (by decide) (Nat.le_of_ble_eq_true rfl) dX7_copyFrom_85) (fun r8 => ?_)
  refine g_aload_n (pc := 88) C dX7_copyFrom_88 rfl 1 rfl ?_
  refine gf_X7_36 (pc := 89) C ha0 rfl dX7_copyFrom_89 ?_
  refine g_aload_n (pc := 92) C dX7_copyFrom_92 rfl 0 rfl ?_
  refine gf_X7_36 (pc := 93) C ht rfl dX7_copyFrom_93 ?_
  refine g_callV (pc := 96) C (g_runSN (stk := []) C (c_X8_copyRow F (rf a0 8) 8 (rf t 8) 8 (kf_7_8 ha0) (kf_7_8 ht) r8) rfl rfl rfl wC_X8_copyRow wS_X8_copyRow wi_X8 wnm_X7_60 hy_X8_copyRow (by decide) (Nat.le_of_ble_eq_true rfl) dX7_copyFrom_96) (fun r9 => ?_)
  refine g_aload_n (pc := 99) C dX7_copyFrom_99 rfl 1 rfl ?_
  refine gf_X7_39 (pc := 100) C ha0 rfl dX7_copyFrom_100 ?_
  refine g_aload_n (pc := 103) C dX7_copyFrom_103 rfl 0 rfl ?_
  refine gf_X7_39 (pc := 104) C ht rfl dX7_copyFrom_104 ?_
  refine g_callV (pc := 107) C (g_runSN (stk := []) C (c_X8_copyRow F (rf a0 9) 8 (rf t 9) 8 (kf_7_9 ha0) (kf_7_9 ht) r9) rfl rfl rfl wC_X8_copyRow wS_X8_copyRow wi_X8 wnm_X7_60 hy_X8_copyRow (by decide) (Nat.le_of_ble_eq_true rfl) dX7_copyFrom_107) (fun r10 => ?_)
  refine g_aload_n (pc := 110) C dX7_copyFrom_110 rfl 0 rfl ?_
  refine g_aload_n (pc := 111) C dX7_copyFrom_111 rfl 1 rfl ?_
  refine gf_X7_42 (pc := 112) C ha0 dX7_copyFrom_112 ?_
  refine gp_X7_42 (pc := 115) C ht dX7_copyFrom_115 ?_
  refine g_ltM (fun M11 => ?_)
  refine g_aload_n (pc := 118) C dX7_copyFrom_118 rfl 0 rfl ?_
  refine g_aload_n (pc := 119) C dX7_copyFrom_119 rfl 1 rfl ?_
  refine gf_X7_53 (pc := 120) C ha0 dX7_copyFrom_120 ?_
  refine gp_X7_53 (pc := 123) C ht dX7_copyFrom_123 ?_
  refine g_ltM (fun M12 => ?_)
  refine g_aload_n (pc := 126) C dX7_copyFrom_126 rfl 0 rfl ?_
  refine g_aload_n (pc := 127) C dX7_copyFrom_127 rfl 1 rfl ?_
  refine gf_X7_50 (pc := 128) C ha0 dX7_copyFrom_128 ?_
  refine gp_X7_50 (pc := 131) C ht dX7_copyFrom_131 ?_
  refine g_ltM (fun M13 => ?_)
  exact g_vret (pc := 134) C dX7_copyFrom_134 rfl rfl

/-! X7_ownedBy -/
set_option maxRecDepth 100000 in
set_option maxHeartbeats 4000000 in
theorem g_X7_ownedBy_h4_b {X : gX} (C : gC X cX7_ownedBy RX7 4 (some .int) 0 0) (F : Nat) (t : Nat) (a0 : Int32) (M : gM) (ht : kd t = gKo 7) (k4 : Int32 → Int32 → Option Int32) (hk4 : ∀ (x2 : Int32) (x3 : Int32), G X (gQm X rvR (rMR M)) 4 M [(0, .ref (xad X t)), (1, .int a0), (2, .int x2), (3, .int x3)] [] 4 (k4 x2 x3)) (x2 : Int32) (x3 : Int32) : G X (gQm X rvR (rMR M)) 4 M [(0, .ref (xad X t)), (1, .int a0), (2, .int x2), (3, .int x3)] [] 4 (f_X7_ownedBy_h4_b F t a0 M k4 x2 x3) := by
  unfold f_X7_ownedBy_h4_b
  refine g_iload_n (pc := 4) C dX7_ownedBy_4 rfl 3 rfl ?_
  refine g_aload_n (pc := 5) C dX7_ownedBy_5 rfl 0 rfl ?_
  refine gf_X7_42 (pc := 6) C ht dX7_ownedBy_6 ?_
  refine g_icmp_ge (pc := 9) (tgt := 34) C dX7_ownedBy_9 (by decide) ?_ ?_
  · refine g_iload_n (pc := 34) C dX7_ownedBy_34 rfl 2 rfl ?_
    exact g_iret (pc := 35) C dX7_ownedBy_35 rfl rfl
  · refine g_aload_n (pc := 12) C dX7_ownedBy_12 rfl 0 rfl ?_
    refine gf_X7_15 (pc := 13) C ht rfl dX7_ownedBy_13 ?_
    refine g_iload_n (pc := 16) C dX7_ownedBy_16 rfl 3 rfl ?_
    refine g_iald (pc := 17) C (kf_7_1 ht) dX7_ownedBy_17 ?_
    refine g_iload_n (pc := 18) C dX7_ownedBy_18 rfl 1 rfl ?_
    refine g_icmp_ne (pc := 19) (tgt := 28) C dX7_ownedBy_19 (by decide) ?_ ?_
    · refine g_iinc (pc := 28) (j := 3) (lv' := [(3, .int (x3 + (1 : Int32))), (0, .ref (xad X t)), (1, .int a0), (2, .int x2)]) C dX7_ownedBy_28 rfl (ii_1 _) (by decide) rfl ?_
      refine g_goto (pc := 31) (tgt := 4) C dX7_ownedBy_31 (by decide) ?_
      refine g_sub (lv' := [(0, .ref (xad X t)), (1, .int a0), (2, .int x2), (3, .int (x3 + (1 : Int32)))]) [1, 2, 3, 0] rfl ?_
      exact hk4 x2 (x3 + (1 : Int32))
    · refine g_iload_n (pc := 22) C dX7_ownedBy_22 rfl 2 rfl ?_
      refine g_iconst (pc := 23) C dX7_ownedBy_23 ic_iconst_1 ?_
      refine g_iload_n (pc := 24) C dX7_ownedBy_24 rfl 3 rfl ?_
      refine g_ishl (pc := 25) C dX7_ownedBy_25 ?_
      refine g_ior (pc := 26) C dX7_ownedBy_26 ?_
      refine g_lt (fun v1 => ?_)
      refine g_istore_n (pc := 27) (lv' := [(2, .int v1), (0, .ref (xad X t)), (1, .int a0), (3, .int x3)]) C dX7_ownedBy_27 rfl (by decide) rfl ?_
      refine g_iinc (pc := 28) (j := 3) (lv' := [(3, .int (x3 + (1 : Int32))), (2, .int v1), (0, .ref (xad X t)), (1, .int a0)]) C dX7_ownedBy_28 rfl (ii_1 _) (by decide) rfl ?_
      refine g_goto (pc := 31) (tgt := 4) C dX7_ownedBy_31 (by decide) ?_
      refine g_sub (lv' := [(0, .ref (xad X t)), (1, .int a0), (2, .int v1), (3, .int (x3 + (1 : Int32)))]) [2, 3, 1, 0] rfl ?_
      exact hk4 v1 (x3 + (1 : Int32))

theorem g_X7_ownedBy_h4 {X : gX} (C : gC X cX7_ownedBy RX7 4 (some .int) 0 0) (F : Nat) (t : Nat) (a0 : Int32) (M : gM) (ht : kd t = gKo 7) : ∀ (n : Nat) (x2 : Int32) (x3 : Int32), G X (gQm X rvR (rMR M)) 4 M [(0, .ref (xad X t)), (1, .int a0), (2, .int x2), (3, .int x3)] [] 4 (f_X7_ownedBy_h4 F t a0 M n x2 x3) := by
  intro n
  induction n with
  | zero =>
    intro x2 x3 r hr
    have hr2 : (none : Option Int32) = some r := hr
    cases hr2
  | succ n ih =>
    intro x2 x3
    exact g_X7_ownedBy_h4_b C F t a0 M ht _ ih x2 x3
set_option maxRecDepth 100000 in
set_option maxHeartbeats 4000000 in
theorem c_X7_ownedBy (F : Nat) (t : Nat) (a0 : Int32) (ht : kd t = gKo 7) (M : gM) : gCt yX7_ownedBy cX7_ownedBy 4 (some .int) 0 0 (fun ad K V => [.ref (ad t), .int a0]) rvR (rMR M) M (f_X7_ownedBy F t a0 M) := by
  refine g_met (y := yX7_ownedBy) (by decide +kernel) (fun _ _ _ => Nat.le_of_ble_eq_true rfl) (fun X C => ?_)
  show G X (gQm X rvR (rMR M)) 4 M [(0, .ref (xad X t)), (1, .int a0)] [] 0 (f_X7_ownedBy F t a0 M)
  unfold f_X7_ownedBy
  refine g_iconst (pc := 0) C dX7_ownedBy_0 ic_iconst_0 ?_
  refine g_istore_n (pc := 1) (lv' := [(2, .int (0 : Int32)), (0, .ref (xad X t)), (1, .int a0)]) C dX7_ownedBy_1 rfl (by decide) rfl ?_
  refine g_iconst (pc := 2) C dX7_ownedBy_2 ic_iconst_0 ?_
  refine g_istore_n (pc := 3) (lv' := [(3, .int (0 : Int32)), (2, .int (0 : Int32)), (0, .ref (xad X t)), (1, .int a0)]) C dX7_ownedBy_3 rfl (by decide) rfl ?_
  refine g_sub (lv' := [(0, .ref (xad X t)), (1, .int a0), (2, .int (0 : Int32)), (3, .int (0 : Int32))]) [2, 3, 1, 0] rfl ?_
  exact g_X7_ownedBy_h4 C F t a0 M ht F (0 : Int32) (0 : Int32)

/-! X8_cheapest -/
set_option maxRecDepth 100000 in
set_option maxHeartbeats 4000000 in
theorem c_X8_cheapest (F : Nat) (a0 : Int32) (a1 : Int32)  (M : gM) : gCt yX8_cheapest cX8_cheapest 4 (some .int) 4 90 (fun ad K V => [.ref (ad 0), .int a0, .int a1]) rvR (rMR M) M (f_X8_cheapest F a0 a1 M) := by
  refine g_met (y := yX8_cheapest) (by decide +kernel) (fun _ _ _ => Nat.le_of_ble_eq_true rfl) (fun X C => ?_)
  show G X (gQm X rvR (rMR M)) 4 M [(0, .ref (xad X 0)), (1, .int a0), (2, .int a1)] [] 0 (f_X8_cheapest F a0 a1 M)
  unfold f_X8_cheapest
  refine g_aload_n (pc := 0) C dX8_cheapest_0 rfl 0 rfl ?_
  refine gf_X8_19 (pc := 1) (u := 3) C kd_0 rfl dX8_cheapest_1 ?_
  refine g_iload_n (pc := 4) C dX8_cheapest_4 rfl 1 rfl ?_
  refine g_callR (pc := 5) C (g_runVN (stk := []) C (c_X7_hasScene 3 a0 kd_3 M) rfl rfl rfl kd_3 rfl wC_X7_hasScene wI_X7_hasScene wV_X7_hasScene wi_X7 wnm_X8_175 hy_X7_hasScene (by decide) (Nat.le_of_ble_eq_true rfl) dX8_cheapest_5) (fun r1 => ?_)
  refine g_if_ne (pc := 8) (tgt := 14) C dX8_cheapest_8 (by decide) ?_ ?_
  · refine g_iload_n (pc := 14) C dX8_cheapest_14 rfl 2 rfl ?_
    refine g_if_lt (pc := 15) (tgt := 23) C dX8_cheapest_15 (by decide) ?_ ?_
    · refine g_ldc (pc := 23) C wk_X8_94 dX8_cheapest_23 ?_
      exact g_iret (pc := 25) C dX8_cheapest_25 rfl rfl
    · refine g_iload_n (pc := 18) C dX8_cheapest_18 rfl 2 rfl ?_
      refine g_iconst (pc := 19) C dX8_cheapest_19 ic_iconst_1 ?_
      refine g_icmp_le (pc := 20) (tgt := 26) C dX8_cheapest_20 (by decide) ?_ ?_
      · refine g_aload_n (pc := 26) C dX8_cheapest_26 rfl 0 rfl ?_
        refine gf_X8_57 (pc := 27) (u := 39) C kd_0 rfl dX8_cheapest_27 ?_
        refine g_iload_n (pc := 30) C dX8_cheapest_30 rfl 1 rfl ?_
        refine g_callR (pc := 31) C (g_runVN (stk := []) C (c_X2_cheapestFor F a0 M) rfl rfl rfl kd_39 rfl wC_X2_cheapestFor wI_X2_cheapestFor wV_X2_cheapestFor wi_X2 wnm_X8_197 hy_X2_cheapestFor (by decide) (Nat.le_of_ble_eq_true rfl) dX8_cheapest_31) (fun r2 => ?_)
        refine g_istore_n (pc := 34) (lv' := [(3, .int r2), (0, .ref (xad X 0)), (1, .int a0), (2, .int a1)]) C dX8_cheapest_34 rfl (by decide) rfl ?_
        refine g_iload_n (pc := 35) C dX8_cheapest_35 rfl 0 rfl ?_
        refine g_iconst (pc := 36) C dX8_cheapest_36 ic_iconst_m1 ?_
        refine g_icmp_ne (pc := 37) (tgt := 42) C dX8_cheapest_37 (by decide) ?_ ?_
        · refine g_iload_n (pc := 42) C dX8_cheapest_42 rfl 3 rfl ?_
          refine g_if_ne (pc := 43) (tgt := 57) C dX8_cheapest_43 (by decide) ?_ ?_
          · refine g_aload_n (pc := 57) C dX8_cheapest_57 rfl 1 rfl ?_
            refine gf_X8_57 (pc := 58) (u := 39) C kd_0 rfl dX8_cheapest_58 ?_
            refine g_iload_n (pc := 61) C dX8_cheapest_61 rfl 0 rfl ?_
            refine g_callR (pc := 62) C (g_runVN (stk := []) C (c_X2_priceOf r2 M) rfl rfl rfl kd_39 rfl wC_X2_priceOf wI_X2_priceOf wV_X2_priceOf wi_X2 wnm_X8_194 hy_X2_priceOf (by decide) (Nat.le_of_ble_eq_true rfl) dX8_cheapest_62) (fun r3 => ?_)
            exact g_iret (pc := 65) C dX8_cheapest_65 rfl rfl
          · refine g_aload_n (pc := 46) C dX8_cheapest_46 rfl 1 rfl ?_
            refine gf_X8_57 (pc := 47) (u := 39) C kd_0 rfl dX8_cheapest_47 ?_
            refine g_iload_n (pc := 50) C dX8_cheapest_50 rfl 0 rfl ?_
            refine g_callR (pc := 51) C (g_runVN (stk := []) C (c_X2_partsOf r2 M) rfl rfl rfl kd_39 rfl wC_X2_partsOf wI_X2_partsOf wV_X2_partsOf wi_X2 wnm_X8_187 hy_X2_partsOf (by decide) (Nat.le_of_ble_eq_true rfl) dX8_cheapest_51) (fun r4 => ?_)
            refine g_goto (pc := 54) (tgt := 65) C dX8_cheapest_54 (by decide) ?_
            exact g_iret (pc := 65) C dX8_cheapest_65 rfl rfl
        · refine g_iconst (pc := 40) C dX8_cheapest_40 ic_iconst_m1 ?_
          exact g_iret (pc := 41) C dX8_cheapest_41 rfl rfl
      · refine g_ldc (pc := 23) C wk_X8_94 dX8_cheapest_23 ?_
        exact g_iret (pc := 25) C dX8_cheapest_25 rfl rfl
  · refine g_ldc (pc := 11) C wk_X8_150 dX8_cheapest_11 ?_
    exact g_iret (pc := 13) C dX8_cheapest_13 rfl rfl

/-! X8_dressBest -/
set_option maxRecDepth 100000 in
set_option maxHeartbeats 4000000 in
theorem c_X8_dressBest (F : Nat) (a0 : Int32)  (M : gM) : gCt yX8_dressBest cX8_dressBest 2 none 4 95 (fun ad K V => [.ref (ad 0), .int a0]) rvV rMV M (f_X8_dressBest F a0 M) := by
  refine g_met (y := yX8_dressBest) (by decide +kernel) (fun _ _ _ => Nat.le_of_ble_eq_true rfl) (fun X C => ?_)
  show G X (gQm X rvV rMV) 2 M [(0, .ref (xad X 0)), (1, .int a0)] [] 0 (f_X8_dressBest F a0 M)
  unfold f_X8_dressBest
  refine g_aload_n (pc := 0) C dX8_dressBest_0 rfl 0 rfl ?_
  refine gf_X8_66 (pc := 1) (u := 43) C kd_0 rfl dX8_dressBest_1 ?_
  refine g_iload_n (pc := 4) C dX8_dressBest_4 rfl 1 rfl ?_
  refine g_callV (pc := 5) C (g_runVN (stk := []) C (c_X1_gather F a0 M) rfl rfl rfl kd_43 rfl wC_X1_gather wI_X1_gather wV_X1_gather wi_X1 wnm_X8_219 hy_X1_gather (by decide) (Nat.le_of_ble_eq_true rfl) dX8_dressBest_5) (fun r1 => ?_)
  refine g_aload_n (pc := 8) C dX8_dressBest_8 rfl 0 rfl ?_
  refine gf_X8_66 (pc := 9) (u := 43) C kd_0 rfl dX8_dressBest_9 ?_
  refine g_aload_n (pc := 12) C dX8_dressBest_12 rfl 0 rfl ?_
  refine gf_X8_38 (pc := 13) (u := 26) C kd_0 rfl dX8_dressBest_13 ?_
  refine gf_X8_160 (pc := 16) (u := 28) C kd_26 rfl dX8_dressBest_16 ?_
  refine g_aload_n (pc := 19) C dX8_dressBest_19 rfl 0 rfl ?_
  refine gf_X8_38 (pc := 20) (u := 26) C kd_0 rfl dX8_dressBest_20 ?_
  refine gf_X8_132 (pc := 23) C kd_26 dX8_dressBest_23 ?_
  refine g_callV (pc := 26) C (g_runVN (stk := []) C (c_X1_choose F 28 10 (r1 26 5) kd_28 r1) rfl rfl rfl kd_43 rfl wC_X1_choose wI_X1_choose wV_X1_choose wi_X1 wnm_X8_226 hy_X1_choose (by decide) (Nat.le_of_ble_eq_true rfl) dX8_dressBest_26) (fun r2 => ?_)
  exact g_vret (pc := 29) C dX8_dressBest_29 rfl rfl

/-! X8_passDay -/
set_option maxRecDepth 100000 in
set_option maxHeartbeats 4000000 in
theorem g_X8_passDay_h33_b {X : gX} (C : gC X cX8_passDay RX8 2 (some .int) 5 116) (F : Nat) (k33 : Int32 → gM → Option (Int32 × gM)) (hk33 : ∀ (x1 : Int32) (M : gM), G X (gQm X rvW rMW) 2 M [(0, .ref (xad X 0)), (1, .int x1)] [] 33 (k33 x1 M)) (x1 : Int32) (M : gM) : G X (gQm X rvW rMW) 2 M [(0, .ref (xad X 0)), (1, .int x1)] [] 33 (f_X8_passDay_h33_b F k33 x1 M) := by
  unfold f_X8_passDay_h33_b
  refine g_iload_n (pc := 33) C dX8_passDay_33 rfl 1 rfl ?_
  refine g_bipush (pc := 34) C dX8_passDay_34 ic_bipush_12 ?_
  refine g_icmp_ge (pc := 36) (tgt := 61) C dX8_passDay_36 (by decide) ?_ ?_
  · refine g_aload_n (pc := 61) C dX8_passDay_61 rfl 0 rfl ?_
    refine gf_X8_38 (pc := 62) (u := 26) C kd_0 rfl dX8_passDay_62 ?_
    refine g_callV (pc := 65) C (g_runVN (stk := []) C (c_X5_wearOut F 26 kd_26 M) rfl rfl rfl kd_26 rfl wC_X5_wearOut wI_X5_wearOut wV_X5_wearOut wi_X5 wnm_X8_267 hy_X5_wearOut (by decide) (Nat.le_of_ble_eq_true rfl) dX8_passDay_65) (fun r3 => ?_)
    refine g_aload_n (pc := 68) C dX8_passDay_68 rfl 0 rfl ?_
    refine gf_X8_38 (pc := 69) (u := 26) C kd_0 rfl dX8_passDay_69 ?_
    refine g_ldcw (pc := 72) C wk_X8_270 dX8_passDay_72 ?_
    refine g_aload_n (pc := 75) C dX8_passDay_75 rfl 0 rfl ?_
    refine gf_X8_38 (pc := 76) (u := 26) C kd_0 rfl dX8_passDay_76 ?_
    refine gf_X8_135 (pc := 79) C kd_26 dX8_passDay_79 ?_
    refine g_aload_n (pc := 82) C dX8_passDay_82 rfl 0 rfl ?_
    refine gf_X8_66 (pc := 83) (u := 43) C kd_0 rfl dX8_passDay_83 ?_
    refine gf_X8_203 (pc := 86) C kd_43 dX8_passDay_86 ?_
    refine g_iadd (pc := 89) C dX8_passDay_89 ?_
    refine g_mmin (pc := 90) C (by decide) (Nat.le_of_ble_eq_true rfl) wm_X8_271 wS_J9_min_7cf53 wi_J9 wC_J9_min_7cf53 dX8_passDay_90 ?_
    refine gp_X8_135 (pc := 93) C kd_26 dX8_passDay_93 ?_
    refine g_ltM (fun M4 => ?_)
    refine g_aload_n (pc := 96) C dX8_passDay_96 rfl 0 rfl ?_
    refine gf_X8_66 (pc := 97) (u := 43) C kd_0 rfl dX8_passDay_97 ?_
    refine gf_X8_203 (pc := 100) C kd_43 dX8_passDay_100 ?_
    exact g_iret (pc := 103) C dX8_passDay_103 rfl rfl
  · refine g_aload_n (pc := 39) C dX8_passDay_39 rfl 0 rfl ?_
    refine gf_X8_38 (pc := 40) (u := 26) C kd_0 rfl dX8_passDay_40 ?_
    refine g_aload_n (pc := 43) C dX8_passDay_43 rfl 0 rfl ?_
    refine gf_X8_66 (pc := 44) (u := 43) C kd_0 rfl dX8_passDay_44 ?_
    refine gf_X8_263 (pc := 47) (u := 86) C kd_43 rfl dX8_passDay_47 ?_
    refine g_iload_n (pc := 50) C dX8_passDay_50 rfl 1 rfl ?_
    refine g_iald (pc := 51) C kd_86 dX8_passDay_51 ?_
    refine g_callV (pc := 52) C (g_runVN (stk := []) C (c_X5_wearHour F 26 (M 86 x1.toNatClampNeg) kd_26 M) rfl rfl rfl kd_26 rfl wC_X5_wearHour wI_X5_wearHour wV_X5_wearHour wi_X5 wnm_X8_264 hy_X5_wearHour (by decide) (Nat.le_of_ble_eq_true rfl) dX8_passDay_52) (fun r5 => ?_)
    refine g_iinc (pc := 55) (j := 1) (lv' := [(1, .int (x1 + (1 : Int32))), (0, .ref (xad X 0))]) C dX8_passDay_55 rfl (ii_1 _) (by decide) rfl ?_
    refine g_goto (pc := 58) (tgt := 33) C dX8_passDay_58 (by decide) ?_
    refine g_sub (lv' := [(0, .ref (xad X 0)), (1, .int (x1 + (1 : Int32)))]) [1, 0] rfl ?_
    exact hk33 (x1 + (1 : Int32)) r5

theorem g_X8_passDay_h33 {X : gX} (C : gC X cX8_passDay RX8 2 (some .int) 5 116) (F : Nat) : ∀ (n : Nat) (x1 : Int32) (M : gM), G X (gQm X rvW rMW) 2 M [(0, .ref (xad X 0)), (1, .int x1)] [] 33 (f_X8_passDay_h33 F n x1 M) := by
  intro n
  induction n with
  | zero =>
    intro x1 M r hr
    have hr2 : (none : Option (Int32 × gM)) = some r := hr
    cases hr2
  | succ n ih =>
    intro x1 M
    exact g_X8_passDay_h33_b C F _ ih x1 M
set_option maxRecDepth 100000 in
set_option maxHeartbeats 4000000 in
theorem c_X8_passDay (F : Nat)  (M : gM) : gCt yX8_passDay cX8_passDay 2 (some .int) 5 116 (fun ad K V => [.ref (ad 0)]) rvW rMW M (f_X8_passDay F M) := by
  refine g_met (y := yX8_passDay) (by decide +kernel) (fun _ _ _ => Nat.le_of_ble_eq_true rfl) (fun X C => ?_)
  show G X (gQm X rvW rMW) 2 M [(0, .ref (xad X 0))] [] 0 (f_X8_passDay F M)
  unfold f_X8_passDay
  refine g_aload_n (pc := 0) C dX8_passDay_0 rfl 0 rfl ?_
  refine g_iconst (pc := 1) C dX8_passDay_1 ic_iconst_0 ?_
  refine g_callV (pc := 2) C (g_runV (stk := []) C (c_X8_dressBest F (0 : Int32) M) rfl rfl rfl kd_0 rfl wC_X8_dressBest wI_X8_dressBest wV_X8_dressBest wi_X8 wm_X8_200 hy_X8_dressBest (by decide) (Nat.le_of_ble_eq_true rfl) dX8_passDay_2) (fun r1 => ?_)
  refine g_aload_n (pc := 5) C dX8_passDay_5 rfl 0 rfl ?_
  refine gf_X8_38 (pc := 6) (u := 26) C kd_0 rfl dX8_passDay_6 ?_
  refine g_dup (pc := 9) C dX8_passDay_9 rfl ?_
  refine gf_X8_138 (pc := 10) C kd_26 dX8_passDay_10 ?_
  refine g_iconst (pc := 13) C dX8_passDay_13 ic_iconst_1 ?_
  refine g_iadd (pc := 14) C dX8_passDay_14 ?_
  refine gp_X8_138 (pc := 15) C kd_26 dX8_passDay_15 ?_
  refine g_ltM (fun M2 => ?_)
  refine g_aload_n (pc := 18) C dX8_passDay_18 rfl 0 rfl ?_
  refine gf_X8_66 (pc := 19) (u := 43) C kd_0 rfl dX8_passDay_19 ?_
  refine gf_X8_203 (pc := 22) C kd_43 dX8_passDay_22 ?_
  refine g_iconst (pc := 25) C dX8_passDay_25 ic_iconst_m1 ?_
  refine g_icmp_ne (pc := 26) (tgt := 31) C dX8_passDay_26 (by decide) ?_ ?_
  · refine g_iconst (pc := 31) C dX8_passDay_31 ic_iconst_0 ?_
    refine g_istore_n (pc := 32) (lv' := [(1, .int (0 : Int32)), (0, .ref (xad X 0))]) C dX8_passDay_32 rfl (by decide) rfl ?_
    refine g_sub (lv' := [(0, .ref (xad X 0)), (1, .int (0 : Int32))]) [1, 0] rfl ?_
    exact g_X8_passDay_h33 C F F (0 : Int32) M2
  · refine g_iconst (pc := 29) C dX8_passDay_29 ic_iconst_0 ?_
    exact g_iret (pc := 30) C dX8_passDay_30 rfl rfl

/-! X8_day -/
set_option maxRecDepth 100000 in
set_option maxHeartbeats 4000000 in
theorem g_X8_day_h18_b {X : gX} (C : gC X cX8_day RX8 4 (some .int) 6 137) (F : Nat) (a0 : Int32) (k18 : Int32 → Int32 → gM → Option (Int32 × gM)) (hk18 : ∀ (x2 : Int32) (x3 : Int32) (M : gM), G X (gQm X rvW rMW) 4 M [(0, .ref (xad X 0)), (1, .int a0), (2, .int x2), (3, .int x3)] [] 18 (k18 x2 x3 M)) (x2 : Int32) (x3 : Int32) (M : gM) : G X (gQm X rvW rMW) 4 M [(0, .ref (xad X 0)), (1, .int a0), (2, .int x2), (3, .int x3)] [] 18 (f_X8_day_h18_b F a0 k18 x2 x3 M) := by
  unfold f_X8_day_h18_b
  refine g_iload_n (pc := 18) C dX8_day_18 rfl 3 rfl ?_
  refine g_iload_n (pc := 19) C dX8_day_19 rfl 1 rfl ?_
  refine g_icmp_ge (pc := 20) (tgt := 36) C dX8_day_20 (by decide) ?_ ?_
  · refine g_iload_n (pc := 36) C dX8_day_36 rfl 2 rfl ?_
    exact g_iret (pc := 37) C dX8_day_37 rfl rfl
  · refine g_iload_n (pc := 23) C dX8_day_23 rfl 2 rfl ?_
    refine g_aload_n (pc := 24) C dX8_day_24 rfl 0 rfl ?_
    refine g_callW (pc := 25) C (g_runV (stk := [.int x2]) C (c_X8_passDay F M) rfl rfl rfl kd_0 rfl wC_X8_passDay wI_X8_passDay wV_X8_passDay wi_X8 wm_X8_257 hy_X8_passDay (by decide) (Nat.le_of_ble_eq_true rfl) dX8_day_25) (fun r1 => ?_)
    refine g_iadd (pc := 28) C dX8_day_28 ?_
    refine g_lt (fun v2 => ?_)
    refine g_istore_n (pc := 29) (lv' := [(2, .int v2), (0, .ref (xad X 0)), (1, .int a0), (3, .int x3)]) C dX8_day_29 rfl (by decide) rfl ?_
    refine g_iinc (pc := 30) (j := 3) (lv' := [(3, .int (x3 + (1 : Int32))), (2, .int v2), (0, .ref (xad X 0)), (1, .int a0)]) C dX8_day_30 rfl (ii_1 _) (by decide) rfl ?_
    refine g_goto (pc := 33) (tgt := 18) C dX8_day_33 (by decide) ?_
    refine g_sub (lv' := [(0, .ref (xad X 0)), (1, .int a0), (2, .int v2), (3, .int (x3 + (1 : Int32)))]) [2, 3, 1, 0] rfl ?_
    exact hk18 v2 (x3 + (1 : Int32)) r1.2

theorem g_X8_day_h18 {X : gX} (C : gC X cX8_day RX8 4 (some .int) 6 137) (F : Nat) (a0 : Int32) : ∀ (n : Nat) (x2 : Int32) (x3 : Int32) (M : gM), G X (gQm X rvW rMW) 4 M [(0, .ref (xad X 0)), (1, .int a0), (2, .int x2), (3, .int x3)] [] 18 (f_X8_day_h18 F a0 n x2 x3 M) := by
  intro n
  induction n with
  | zero =>
    intro x2 x3 M r hr
    have hr2 : (none : Option (Int32 × gM)) = some r := hr
    cases hr2
  | succ n ih =>
    intro x2 x3 M
    exact g_X8_day_h18_b C F a0 _ ih x2 x3 M
set_option maxRecDepth 100000 in
set_option maxHeartbeats 4000000 in
theorem c_X8_day (F : Nat) (a0 : Int32)  (M : gM) : gCt yX8_day cX8_day 4 (some .int) 6 137 (fun ad K V => [.ref (ad 0), .int a0]) rvW rMW M (f_X8_day F a0 M) := by
  refine g_met (y := yX8_day) (by decide +kernel) (fun _ _ _ => Nat.le_of_ble_eq_true rfl) (fun X C => ?_)
  show G X (gQm X rvW rMW) 4 M [(0, .ref (xad X 0)), (1, .int a0)] [] 0 (f_X8_day F a0 M)
  unfold f_X8_day
  refine g_iload_n (pc := 0) C dX8_day_0 rfl 1 rfl ?_
  refine g_iconst (pc := 1) C dX8_day_1 ic_iconst_1 ?_
  refine g_icmp_lt (pc := 2) (tgt := 11) C dX8_day_2 (by decide) ?_ ?_
  · refine g_ldc (pc := 11) C wk_X8_94 dX8_day_11 ?_
    exact g_iret (pc := 13) C dX8_day_13 rfl rfl
  · refine g_iload_n (pc := 5) C dX8_day_5 rfl 1 rfl ?_
    refine g_bipush (pc := 6) C dX8_day_6 ic_bipush_9 ?_
    refine g_icmp_le (pc := 8) (tgt := 14) C dX8_day_8 (by decide) ?_ ?_
    · refine g_iconst (pc := 14) C dX8_day_14 ic_iconst_0 ?_
      refine g_istore_n (pc := 15) (lv' := [(2, .int (0 : Int32)), (0, .ref (xad X 0)), (1, .int a0)]) C dX8_day_15 rfl (by decide) rfl ?_
      refine g_iconst (pc := 16) C dX8_day_16 ic_iconst_0 ?_
      refine g_istore_n (pc := 17) (lv' := [(3, .int (0 : Int32)), (2, .int (0 : Int32)), (0, .ref (xad X 0)), (1, .int a0)]) C dX8_day_17 rfl (by decide) rfl ?_
      refine g_sub (lv' := [(0, .ref (xad X 0)), (1, .int a0), (2, .int (0 : Int32)), (3, .int (0 : Int32))]) [2, 3, 1, 0] rfl ?_
      exact g_X8_day_h18 C F a0 F (0 : Int32) (0 : Int32) M
    · refine g_ldc (pc := 11) C wk_X8_94 dX8_day_11 ?_
      exact g_iret (pc := 13) C dX8_day_13 rfl rfl

/-! X8_dressing -/
set_option maxRecDepth 100000 in
set_option maxHeartbeats 4000000 in
theorem g_X8_dressing_b19 {X : gX} (C : gC X cX8_dressing RX8 2 (some .int) 5 116) (F : Nat) (a0 : Int32) (M : gM) : G X (gQm X rvW rMW) 2 M [(0, .ref (xad X 0)), (1, .int a0)] [] 19 (f_X8_dressing_b19 F a0 M) := by
  unfold f_X8_dressing_b19
  refine g_aload_n (pc := 19) C dX8_dressing_19 rfl 0 rfl ?_
  refine g_iconst (pc := 20) C dX8_dressing_20 ic_iconst_0 ?_
  refine g_callV (pc := 21) C (g_runV (stk := []) C (c_X8_dressBest F (0 : Int32) M) rfl rfl rfl kd_0 rfl wC_X8_dressBest wI_X8_dressBest wV_X8_dressBest wi_X8 wm_X8_200 hy_X8_dressBest (by decide) (Nat.le_of_ble_eq_true rfl) dX8_dressing_21) (fun r1 => ?_)
  refine g_iload_n (pc := 24) C dX8_dressing_24 rfl 1 rfl ?_
  refine g_iconst (pc := 25) C dX8_dressing_25 ic_iconst_m1 ?_
  refine g_icmp_eq (pc := 26) (tgt := 40) C dX8_dressing_26 (by decide) ?_ ?_
  · refine g_aload_n (pc := 40) C dX8_dressing_40 rfl 0 rfl ?_
    refine gf_X8_66 (pc := 41) (u := 43) C kd_0 rfl dX8_dressing_41 ?_
    refine gf_X8_203 (pc := 44) C kd_43 dX8_dressing_44 ?_
    exact g_iret (pc := 47) C dX8_dressing_47 rfl rfl
  · refine g_aload_n (pc := 29) C dX8_dressing_29 rfl 0 rfl ?_
    refine gf_X8_66 (pc := 30) (u := 43) C kd_0 rfl dX8_dressing_30 ?_
    refine gf_X8_203 (pc := 33) C kd_43 dX8_dressing_33 ?_
    refine g_iconst (pc := 36) C dX8_dressing_36 ic_iconst_m1 ?_
    refine g_icmp_ne (pc := 37) (tgt := 48) C dX8_dressing_37 (by decide) ?_ ?_
    · refine g_aload_n (pc := 48) C dX8_dressing_48 rfl 0 rfl ?_
      refine gf_X8_57 (pc := 49) (u := 39) C kd_0 rfl dX8_dressing_49 ?_
      refine g_aload_n (pc := 52) C dX8_dressing_52 rfl 0 rfl ?_
      refine gf_X8_66 (pc := 53) (u := 43) C kd_0 rfl dX8_dressing_53 ?_
      refine gf_X8_206 (pc := 56) (u := 87) C kd_43 rfl dX8_dressing_56 ?_
      refine g_iload_n (pc := 59) C dX8_dressing_59 rfl 1 rfl ?_
      refine g_iald (pc := 60) C kd_87 dX8_dressing_60 ?_
      refine g_callR (pc := 61) C (g_runVN (stk := []) C (c_X2_partsOf (r1 87 a0.toNatClampNeg) r1) rfl rfl rfl kd_39 rfl wC_X2_partsOf wI_X2_partsOf wV_X2_partsOf wi_X2 wnm_X8_187 hy_X2_partsOf (by decide) (Nat.le_of_ble_eq_true rfl) dX8_dressing_61) (fun r2 => ?_)
      exact g_iret (pc := 64) C dX8_dressing_64 rfl rfl
    · refine g_aload_n (pc := 40) C dX8_dressing_40 rfl 0 rfl ?_
      refine gf_X8_66 (pc := 41) (u := 43) C kd_0 rfl dX8_dressing_41 ?_
      refine gf_X8_203 (pc := 44) C kd_43 dX8_dressing_44 ?_
      exact g_iret (pc := 47) C dX8_dressing_47 rfl rfl

set_option maxRecDepth 100000 in
set_option maxHeartbeats 4000000 in
theorem c_X8_dressing (F : Nat) (a0 : Int32)  (M : gM) : gCt yX8_dressing cX8_dressing 2 (some .int) 5 116 (fun ad K V => [.ref (ad 0), .int a0]) rvW rMW M (f_X8_dressing F a0 M) := by
  refine g_met (y := yX8_dressing) (by decide +kernel) (fun _ _ _ => Nat.le_of_ble_eq_true rfl) (fun X C => ?_)
  show G X (gQm X rvW rMW) 2 M [(0, .ref (xad X 0)), (1, .int a0)] [] 0 (f_X8_dressing F a0 M)
  unfold f_X8_dressing
  refine g_iload_n (pc := 0) C dX8_dressing_0 rfl 1 rfl ?_
  refine g_iconst (pc := 1) C dX8_dressing_1 ic_iconst_m1 ?_
  refine g_icmp_eq (pc := 2) (tgt := 19) C dX8_dressing_2 (by decide) ?_ ?_
  · exact g_X8_dressing_b19 C F a0 M
  · refine g_aload_n (pc := 5) C dX8_dressing_5 rfl 0 rfl ?_
    refine gf_X8_19 (pc := 6) (u := 3) C kd_0 rfl dX8_dressing_6 ?_
    refine g_iload_n (pc := 9) C dX8_dressing_9 rfl 1 rfl ?_
    refine g_callR (pc := 10) C (g_runVN (stk := []) C (c_X7_hasScene 3 a0 kd_3 M) rfl rfl rfl kd_3 rfl wC_X7_hasScene wI_X7_hasScene wV_X7_hasScene wi_X7 wnm_X8_175 hy_X7_hasScene (by decide) (Nat.le_of_ble_eq_true rfl) dX8_dressing_10) (fun r3 => ?_)
    refine g_if_ne (pc := 13) (tgt := 19) C dX8_dressing_13 (by decide) ?_ ?_
    · exact g_X8_dressing_b19 C F a0 M
    · refine g_ldc (pc := 16) C wk_X8_150 dX8_dressing_16 ?_
      exact g_iret (pc := 18) C dX8_dressing_18 rfl rfl

/-! X8_drift -/
set_option maxRecDepth 100000 in
set_option maxHeartbeats 4000000 in
theorem g_X8_drift_h18_b {X : gX} (C : gC X cX8_drift RX8 4 (some .int) 6 137) (F : Nat) (a0 : Int32) (k18 : Int32 → Int32 → gM → Option (Int32 × gM)) (hk18 : ∀ (x2 : Int32) (x3 : Int32) (M : gM), G X (gQm X rvW rMW) 4 M [(0, .ref (xad X 0)), (1, .int a0), (2, .int x2), (3, .int x3)] [] 18 (k18 x2 x3 M)) (x2 : Int32) (x3 : Int32) (M : gM) : G X (gQm X rvW rMW) 4 M [(0, .ref (xad X 0)), (1, .int a0), (2, .int x2), (3, .int x3)] [] 18 (f_X8_drift_h18_b F a0 k18 x2 x3 M) := by
  unfold f_X8_drift_h18_b
  refine g_iload_n (pc := 18) C dX8_drift_18 rfl 3 rfl ?_
  refine g_iload_n (pc := 19) C dX8_drift_19 rfl 1 rfl ?_
  refine g_icmp_ge (pc := 20) (tgt := 50) C dX8_drift_20 (by decide) ?_ ?_
  · refine g_iload_n (pc := 50) C dX8_drift_50 rfl 2 rfl ?_
    exact g_iret (pc := 51) C dX8_drift_51 rfl rfl
  · refine g_aload_n (pc := 23) C dX8_drift_23 rfl 0 rfl ?_
    refine gf_X8_38 (pc := 24) (u := 26) C kd_0 rfl dX8_drift_24 ?_
    refine g_aload_n (pc := 27) C dX8_drift_27 rfl 0 rfl ?_
    refine gf_X8_19 (pc := 28) (u := 3) C kd_0 rfl dX8_drift_28 ?_
    refine gf_X8_123 (pc := 31) C kd_3 dX8_drift_31 ?_
    refine g_callV (pc := 34) C (g_runVN (stk := []) C (c_X5_drawPrices F 26 (M 3 10) kd_26 M) rfl rfl rfl kd_26 rfl wC_X5_drawPrices wI_X5_drawPrices wV_X5_drawPrices wi_X5 wnm_X8_260 hy_X5_drawPrices (by decide) (Nat.le_of_ble_eq_true rfl) dX8_drift_34) (fun r1 => ?_)
    refine g_iload_n (pc := 37) C dX8_drift_37 rfl 2 rfl ?_
    refine g_aload_n (pc := 38) C dX8_drift_38 rfl 0 rfl ?_
    refine g_callW (pc := 39) C (g_runV (stk := [.int x2]) C (c_X8_passDay F r1) rfl rfl rfl kd_0 rfl wC_X8_passDay wI_X8_passDay wV_X8_passDay wi_X8 wm_X8_257 hy_X8_passDay (by decide) (Nat.le_of_ble_eq_true rfl) dX8_drift_39) (fun r2 => ?_)
    refine g_iadd (pc := 42) C dX8_drift_42 ?_
    refine g_lt (fun v3 => ?_)
    refine g_istore_n (pc := 43) (lv' := [(2, .int v3), (0, .ref (xad X 0)), (1, .int a0), (3, .int x3)]) C dX8_drift_43 rfl (by decide) rfl ?_
    refine g_iinc (pc := 44) (j := 3) (lv' := [(3, .int (x3 + (1 : Int32))), (2, .int v3), (0, .ref (xad X 0)), (1, .int a0)]) C dX8_drift_44 rfl (ii_1 _) (by decide) rfl ?_
    refine g_goto (pc := 47) (tgt := 18) C dX8_drift_47 (by decide) ?_
    refine g_sub (lv' := [(0, .ref (xad X 0)), (1, .int a0), (2, .int v3), (3, .int (x3 + (1 : Int32)))]) [2, 3, 1, 0] rfl ?_
    exact hk18 v3 (x3 + (1 : Int32)) r2.2

theorem g_X8_drift_h18 {X : gX} (C : gC X cX8_drift RX8 4 (some .int) 6 137) (F : Nat) (a0 : Int32) : ∀ (n : Nat) (x2 : Int32) (x3 : Int32) (M : gM), G X (gQm X rvW rMW) 4 M [(0, .ref (xad X 0)), (1, .int a0), (2, .int x2), (3, .int x3)] [] 18 (f_X8_drift_h18 F a0 n x2 x3 M) := by
  intro n
  induction n with
  | zero =>
    intro x2 x3 M r hr
    have hr2 : (none : Option (Int32 × gM)) = some r := hr
    cases hr2
  | succ n ih =>
    intro x2 x3 M
    exact g_X8_drift_h18_b C F a0 _ ih x2 x3 M
set_option maxRecDepth 100000 in
set_option maxHeartbeats 4000000 in
theorem c_X8_drift (F : Nat) (a0 : Int32)  (M : gM) : gCt yX8_drift cX8_drift 4 (some .int) 6 137 (fun ad K V => [.ref (ad 0), .int a0]) rvW rMW M (f_X8_drift F a0 M) := by
  refine g_met (y := yX8_drift) (by decide +kernel) (fun _ _ _ => Nat.le_of_ble_eq_true rfl) (fun X C => ?_)
  show G X (gQm X rvW rMW) 4 M [(0, .ref (xad X 0)), (1, .int a0)] [] 0 (f_X8_drift F a0 M)
  unfold f_X8_drift
  refine g_iload_n (pc := 0) C dX8_drift_0 rfl 1 rfl ?_
  refine g_iconst (pc := 1) C dX8_drift_1 ic_iconst_1 ?_
  refine g_icmp_lt (pc := 2) (tgt := 11) C dX8_drift_2 (by decide) ?_ ?_
  · refine g_ldc (pc := 11) C wk_X8_94 dX8_drift_11 ?_
    exact g_iret (pc := 13) C dX8_drift_13 rfl rfl
  · refine g_iload_n (pc := 5) C dX8_drift_5 rfl 1 rfl ?_
    refine g_bipush (pc := 6) C dX8_drift_6 ic_bipush_9 ?_
    refine g_icmp_le (pc := 8) (tgt := 14) C dX8_drift_8 (by decide) ?_ ?_
    · refine g_iconst (pc := 14) C dX8_drift_14 ic_iconst_0 ?_
      refine g_istore_n (pc := 15) (lv' := [(2, .int (0 : Int32)), (0, .ref (xad X 0)), (1, .int a0)]) C dX8_drift_15 rfl (by decide) rfl ?_
      refine g_iconst (pc := 16) C dX8_drift_16 ic_iconst_0 ?_
      refine g_istore_n (pc := 17) (lv' := [(3, .int (0 : Int32)), (2, .int (0 : Int32)), (0, .ref (xad X 0)), (1, .int a0)]) C dX8_drift_17 rfl (by decide) rfl ?_
      refine g_sub (lv' := [(0, .ref (xad X 0)), (1, .int a0), (2, .int (0 : Int32)), (3, .int (0 : Int32))]) [2, 3, 1, 0] rfl ?_
      exact g_X8_drift_h18 C F a0 F (0 : Int32) (0 : Int32) M
    · refine g_ldc (pc := 11) C wk_X8_94 dX8_drift_11 ?_
      exact g_iret (pc := 13) C dX8_drift_13 rfl rfl

/-! X8_fault -/
set_option maxRecDepth 100000 in
set_option maxHeartbeats 4000000 in
theorem c_X8_fault   (M : gM) : gCt yX8_fault cX8_fault 1 (some .int) 0 0 (fun ad K V => [.ref (ad 0)]) rvR (rMR M) M (f_X8_fault M) := by
  refine g_met (y := yX8_fault) (by decide +kernel) (fun _ _ _ => Nat.le_of_ble_eq_true rfl) (fun X C => ?_)
  show G X (gQm X rvR (rMR M)) 1 M [(0, .ref (xad X 0))] [] 0 (f_X8_fault M)
  unfold f_X8_fault
  refine g_aload_n (pc := 0) C dX8_fault_0 rfl 0 rfl ?_
  refine gf_X8_90 (pc := 1) C kd_0 dX8_fault_1 ?_
  exact g_iret (pc := 4) C dX8_fault_4 rfl rfl

