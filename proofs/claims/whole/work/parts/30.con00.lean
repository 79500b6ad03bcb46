/-! J6_bitCount_0f7a4 -/
set_option maxRecDepth 100000 in
set_option maxHeartbeats 4000000 in
theorem c_J6_bitCount_0f7a4 (a0 : Int32)  (M : gM) : gCt yJ6_bitCount_0f7a4 cJ6_bitCount_0f7a4 1 (some .int) 0 0 (fun ad K V => [.int a0]) rvR (rMR M) M (f_J6_bitCount_0f7a4 a0 M) := by
  refine g_met (y := yJ6_bitCount_0f7a4) (by decide +kernel) (fun _ _ _ => Nat.le_of_ble_eq_true rfl) (fun X C => ?_)
  show G X (gQm X rvR (rMR M)) 1 M [(0, .int a0)] [] 0 (f_J6_bitCount_0f7a4 a0 M)
  unfold f_J6_bitCount_0f7a4
  refine g_iload_n (pc := 0) C dJ6_bitCount_0f7a4_0 rfl 0 rfl ?_
  refine g_iload_n (pc := 1) C dJ6_bitCount_0f7a4_1 rfl 0 rfl ?_
  refine g_iconst (pc := 2) C dJ6_bitCount_0f7a4_2 ic_iconst_1 ?_
  refine g_iushr (pc := 3) C dJ6_bitCount_0f7a4_3 ?_
  refine g_ldcw (pc := 4) C wk_J6_265 dJ6_bitCount_0f7a4_4 ?_
  refine g_iand (pc := 7) C dJ6_bitCount_0f7a4_7 ?_
  refine g_isub (pc := 8) C dJ6_bitCount_0f7a4_8 ?_
  refine g_lt (fun v1 => ?_)
  refine g_istore_n (pc := 9) (lv' := [(0, .int v1)]) C dJ6_bitCount_0f7a4_9 rfl (by decide) rfl ?_
  refine g_iload_n (pc := 10) C dJ6_bitCount_0f7a4_10 rfl 0 rfl ?_
  refine g_ldcw (pc := 11) C wk_J6_266 dJ6_bitCount_0f7a4_11 ?_
  refine g_iand (pc := 14) C dJ6_bitCount_0f7a4_14 ?_
  refine g_iload_n (pc := 15) C dJ6_bitCount_0f7a4_15 rfl 0 rfl ?_
  refine g_iconst (pc := 16) C dJ6_bitCount_0f7a4_16 ic_iconst_2 ?_
  refine g_iushr (pc := 17) C dJ6_bitCount_0f7a4_17 ?_
  refine g_ldcw (pc := 18) C wk_J6_266 dJ6_bitCount_0f7a4_18 ?_
  refine g_iand (pc := 21) C dJ6_bitCount_0f7a4_21 ?_
  refine g_iadd (pc := 22) C dJ6_bitCount_0f7a4_22 ?_
  refine g_lt (fun v2 => ?_)
  refine g_istore_n (pc := 23) (lv' := [(0, .int v2)]) C dJ6_bitCount_0f7a4_23 rfl (by decide) rfl ?_
  refine g_iload_n (pc := 24) C dJ6_bitCount_0f7a4_24 rfl 0 rfl ?_
  refine g_iload_n (pc := 25) C dJ6_bitCount_0f7a4_25 rfl 0 rfl ?_
  refine g_iconst (pc := 26) C dJ6_bitCount_0f7a4_26 ic_iconst_4 ?_
  refine g_iushr (pc := 27) C dJ6_bitCount_0f7a4_27 ?_
  refine g_iadd (pc := 28) C dJ6_bitCount_0f7a4_28 ?_
  refine g_ldcw (pc := 29) C wk_J6_267 dJ6_bitCount_0f7a4_29 ?_
  refine g_iand (pc := 32) C dJ6_bitCount_0f7a4_32 ?_
  refine g_lt (fun v3 => ?_)
  refine g_istore_n (pc := 33) (lv' := [(0, .int v3)]) C dJ6_bitCount_0f7a4_33 rfl (by decide) rfl ?_
  refine g_iload_n (pc := 34) C dJ6_bitCount_0f7a4_34 rfl 0 rfl ?_
  refine g_iload_n (pc := 35) C dJ6_bitCount_0f7a4_35 rfl 0 rfl ?_
  refine g_bipush (pc := 36) C dJ6_bitCount_0f7a4_36 ic_bipush_8 ?_
  refine g_iushr (pc := 38) C dJ6_bitCount_0f7a4_38 ?_
  refine g_iadd (pc := 39) C dJ6_bitCount_0f7a4_39 ?_
  refine g_lt (fun v4 => ?_)
  refine g_istore_n (pc := 40) (lv' := [(0, .int v4)]) C dJ6_bitCount_0f7a4_40 rfl (by decide) rfl ?_
  refine g_iload_n (pc := 41) C dJ6_bitCount_0f7a4_41 rfl 0 rfl ?_
  refine g_iload_n (pc := 42) C dJ6_bitCount_0f7a4_42 rfl 0 rfl ?_
  refine g_bipush (pc := 43) C dJ6_bitCount_0f7a4_43 ic_bipush_16 ?_
  refine g_iushr (pc := 45) C dJ6_bitCount_0f7a4_45 ?_
  refine g_iadd (pc := 46) C dJ6_bitCount_0f7a4_46 ?_
  refine g_lt (fun v5 => ?_)
  refine g_istore_n (pc := 47) (lv' := [(0, .int v5)]) C dJ6_bitCount_0f7a4_47 rfl (by decide) rfl ?_
  refine g_iload_n (pc := 48) C dJ6_bitCount_0f7a4_48 rfl 0 rfl ?_
  refine g_bipush (pc := 49) C dJ6_bitCount_0f7a4_49 ic_bipush_63 ?_
  refine g_iand (pc := 51) C dJ6_bitCount_0f7a4_51 ?_
  exact g_iret (pc := 52) C dJ6_bitCount_0f7a4_52 rfl rfl

/-! X0_add -/
set_option maxRecDepth 100000 in
set_option maxHeartbeats 4000000 in
theorem c_X0_add (a0 : Int32) (a1 : Int32)  (M : gM) : gCt yX0_add cX0_add 3 (some .boolean) 0 0 (fun ad K V => [.ref (ad 91), .int a0, .int a1]) rvW rMW M (f_X0_add a0 a1 M) := by
  refine g_met (y := yX0_add) (by decide +kernel) (fun _ _ _ => Nat.le_of_ble_eq_true rfl) (fun X C => ?_)
  show G X (gQm X rvW rMW) 3 M [(0, .ref (xad X 91)), (1, .int a0), (2, .int a1)] [] 0 (f_X0_add a0 a1 M)
  unfold f_X0_add
  refine g_aload_n (pc := 0) C dX0_add_0 rfl 0 rfl ?_
  refine gf_X0_22 (pc := 1) C kd_91 dX0_add_1 ?_
  refine g_bipush (pc := 4) C dX0_add_4 ic_bipush_40 ?_
  refine g_icmp_lt (pc := 6) (tgt := 11) C dX0_add_6 (by decide) ?_ ?_
  · refine g_aload_n (pc := 11) C dX0_add_11 rfl 0 rfl ?_
    refine gf_X0_9 (pc := 12) (u := 92) C kd_91 rfl dX0_add_12 ?_
    refine g_aload_n (pc := 15) C dX0_add_15 rfl 0 rfl ?_
    refine gf_X0_22 (pc := 16) C kd_91 dX0_add_16 ?_
    refine g_iload_n (pc := 19) C dX0_add_19 rfl 1 rfl ?_
    refine g_iast (pc := 20) C kd_92 dX0_add_20 ?_
    refine g_ltM (fun M1 => ?_)
    refine g_aload_n (pc := 21) C dX0_add_21 rfl 0 rfl ?_
    refine gf_X0_15 (pc := 22) (u := 93) C kd_91 rfl dX0_add_22 ?_
    refine g_aload_n (pc := 25) C dX0_add_25 rfl 0 rfl ?_
    refine gf_X0_22 (pc := 26) C kd_91 dX0_add_26 ?_
    refine g_iload_n (pc := 29) C dX0_add_29 rfl 2 rfl ?_
    refine g_iast (pc := 30) C kd_93 dX0_add_30 ?_
    refine g_ltM (fun M2 => ?_)
    refine g_aload_n (pc := 31) C dX0_add_31 rfl 0 rfl ?_
    refine g_dup (pc := 32) C dX0_add_32 rfl ?_
    refine gf_X0_22 (pc := 33) C kd_91 dX0_add_33 ?_
    refine g_iconst (pc := 36) C dX0_add_36 ic_iconst_1 ?_
    refine g_iadd (pc := 37) C dX0_add_37 ?_
    refine gp_X0_22 (pc := 38) C kd_91 dX0_add_38 ?_
    refine g_ltM (fun M3 => ?_)
    refine g_iconst (pc := 41) C dX0_add_41 ic_iconst_1 ?_
    exact g_zretk (pc := 42) C rfl dX0_add_42 rfl rfl
  · refine g_iconst (pc := 9) C dX0_add_9 ic_iconst_0 ?_
    exact g_zretk (pc := 10) C rfl dX0_add_10 rfl rfl

/-! X7_hasPart -/
set_option maxRecDepth 100000 in
set_option maxHeartbeats 4000000 in
theorem c_X7_hasPart (t : Nat) (a0 : Int32) (ht : kd t = gKo 7) (M : gM) : gCt yX7_hasPart cX7_hasPart 2 (some .boolean) 0 0 (fun ad K V => [.ref (ad t), .int a0]) rvR (rMR M) M (f_X7_hasPart t a0 M) := by
  refine g_met (y := yX7_hasPart) (by decide +kernel) (fun _ _ _ => Nat.le_of_ble_eq_true rfl) (fun X C => ?_)
  show G X (gQm X rvR (rMR M)) 2 M [(0, .ref (xad X t)), (1, .int a0)] [] 0 (f_X7_hasPart t a0 M)
  unfold f_X7_hasPart
  refine g_iload_n (pc := 0) C dX7_hasPart_0 rfl 1 rfl ?_
  refine g_if_lt (pc := 1) (tgt := 16) C dX7_hasPart_1 (by decide) ?_ ?_
  · refine g_iconst (pc := 16) C dX7_hasPart_16 ic_iconst_0 ?_
    exact g_zretk (pc := 17) C rfl dX7_hasPart_17 rfl rfl
  · refine g_iload_n (pc := 4) C dX7_hasPart_4 rfl 1 rfl ?_
    refine g_aload_n (pc := 5) C dX7_hasPart_5 rfl 0 rfl ?_
    refine gf_X7_42 (pc := 6) C ht dX7_hasPart_6 ?_
    refine g_icmp_ge (pc := 9) (tgt := 16) C dX7_hasPart_9 (by decide) ?_ ?_
    · refine g_iconst (pc := 16) C dX7_hasPart_16 ic_iconst_0 ?_
      exact g_zretk (pc := 17) C rfl dX7_hasPart_17 rfl rfl
    · refine g_iconst (pc := 12) C dX7_hasPart_12 ic_iconst_1 ?_
      refine g_goto (pc := 13) (tgt := 17) C dX7_hasPart_13 (by decide) ?_
      exact g_zretk (pc := 17) C rfl dX7_hasPart_17 rfl rfl

/-! X7_isFree -/
set_option maxRecDepth 100000 in
set_option maxHeartbeats 4000000 in
theorem c_X7_isFree (t : Nat) (a0 : Int32) (a1 : Int32) (ht : kd t = gKo 7) (M : gM) : gCt yX7_isFree cX7_isFree 3 (some .boolean) 1 21 (fun ad K V => [.ref (ad t), .int a0, .int a1]) rvR (rMR M) M (f_X7_isFree t a0 a1 M) := by
  refine g_met (y := yX7_isFree) (by decide +kernel) (fun _ _ _ => Nat.le_of_ble_eq_true rfl) (fun X C => ?_)
  show G X (gQm X rvR (rMR M)) 3 M [(0, .ref (xad X t)), (1, .int a0), (2, .int a1)] [] 0 (f_X7_isFree t a0 a1 M)
  unfold f_X7_isFree
  refine g_aload_n (pc := 0) C dX7_isFree_0 rfl 0 rfl ?_
  refine g_iload_n (pc := 1) C dX7_isFree_1 rfl 1 rfl ?_
  refine g_callR (pc := 2) C (g_runV (stk := []) C (c_X7_hasPart t a0 ht M) rfl rfl rfl ht rfl wC_X7_hasPart wI_X7_hasPart wV_X7_hasPart wi_X7 wm_X7_46 hy_X7_hasPart (by decide) (Nat.le_of_ble_eq_true rfl) dX7_isFree_2) (fun r1 => ?_)
  refine g_if_eq (pc := 5) (tgt := 32) C dX7_isFree_5 (by decide) ?_ ?_
  · refine g_iconst (pc := 32) C dX7_isFree_32 ic_iconst_0 ?_
    exact g_zretk (pc := 33) C rfl dX7_isFree_33 rfl rfl
  · refine g_aload_n (pc := 8) C dX7_isFree_8 rfl 0 rfl ?_
    refine gf_X7_24 (pc := 9) C ht rfl dX7_isFree_9 ?_
    refine g_iload_n (pc := 12) C dX7_isFree_12 rfl 1 rfl ?_
    refine g_iald (pc := 13) C (kf_7_4 ht) dX7_isFree_13 ?_
    refine g_iload_n (pc := 14) C dX7_isFree_14 rfl 2 rfl ?_
    refine g_icmp_gt (pc := 15) (tgt := 32) C dX7_isFree_15 (by decide) ?_ ?_
    · refine g_iconst (pc := 32) C dX7_isFree_32 ic_iconst_0 ?_
      exact g_zretk (pc := 33) C rfl dX7_isFree_33 rfl rfl
    · refine g_iload_n (pc := 18) C dX7_isFree_18 rfl 2 rfl ?_
      refine g_aload_n (pc := 19) C dX7_isFree_19 rfl 0 rfl ?_
      refine gf_X7_27 (pc := 20) C ht rfl dX7_isFree_20 ?_
      refine g_iload_n (pc := 23) C dX7_isFree_23 rfl 1 rfl ?_
      refine g_iald (pc := 24) C (kf_7_5 ht) dX7_isFree_24 ?_
      refine g_icmp_gt (pc := 25) (tgt := 32) C dX7_isFree_25 (by decide) ?_ ?_
      · refine g_iconst (pc := 32) C dX7_isFree_32 ic_iconst_0 ?_
        exact g_zretk (pc := 33) C rfl dX7_isFree_33 rfl rfl
      · refine g_iconst (pc := 28) C dX7_isFree_28 ic_iconst_1 ?_
        refine g_goto (pc := 29) (tgt := 33) C dX7_isFree_29 (by decide) ?_
        exact g_zretk (pc := 33) C rfl dX7_isFree_33 rfl rfl

/-! X0_wasToldAhead -/
set_option maxRecDepth 100000 in
set_option maxHeartbeats 4000000 in
theorem g_X0_wasToldAhead_h2_b {X : gX} (C : gC X cX0_wasToldAhead RX0 4 (some .boolean) 1 19) (F : Nat) (a0 : Int32) (a1 : Int32) (M : gM) (k2 : Int32 → Option Int32) (hk2 : ∀ (x3 : Int32), G X (gQm X rvR (rMR M)) 4 M [(0, .ref (xad X 91)), (1, .int a0), (2, .int a1), (3, .int x3)] [] 2 (k2 x3)) (x3 : Int32) : G X (gQm X rvR (rMR M)) 4 M [(0, .ref (xad X 91)), (1, .int a0), (2, .int a1), (3, .int x3)] [] 2 (f_X0_wasToldAhead_h2_b F a0 a1 M k2 x3) := by
  unfold f_X0_wasToldAhead_h2_b
  refine g_iload_n (pc := 2) C dX0_wasToldAhead_2 rfl 3 rfl ?_
  refine g_iload_n (pc := 3) C dX0_wasToldAhead_3 rfl 1 rfl ?_
  refine g_icmp_ge (pc := 4) (tgt := 50) C dX0_wasToldAhead_4 (by decide) ?_ ?_
  · refine g_iconst (pc := 50) C dX0_wasToldAhead_50 ic_iconst_0 ?_
    exact g_zretk (pc := 51) C rfl dX0_wasToldAhead_51 rfl rfl
  · refine g_aload_n (pc := 7) C dX0_wasToldAhead_7 rfl 0 rfl ?_
    refine gf_X0_15 (pc := 8) (u := 93) C kd_91 rfl dX0_wasToldAhead_8 ?_
    refine g_iload_n (pc := 11) C dX0_wasToldAhead_11 rfl 3 rfl ?_
    refine g_iald (pc := 12) C kd_93 dX0_wasToldAhead_12 ?_
    refine g_aload_n (pc := 13) C dX0_wasToldAhead_13 rfl 0 rfl ?_
    refine gf_X0_15 (pc := 14) (u := 93) C kd_91 rfl dX0_wasToldAhead_14 ?_
    refine g_iload_n (pc := 17) C dX0_wasToldAhead_17 rfl 1 rfl ?_
    refine g_iald (pc := 18) C kd_93 dX0_wasToldAhead_18 ?_
    refine g_icmp_ne (pc := 19) (tgt := 44) C dX0_wasToldAhead_19 (by decide) ?_ ?_
    · refine g_iinc (pc := 44) (j := 3) (lv' := [(3, .int (x3 + (1 : Int32))), (0, .ref (xad X 91)), (1, .int a0), (2, .int a1)]) C dX0_wasToldAhead_44 rfl (ii_1 _) (by decide) rfl ?_
      refine g_goto (pc := 47) (tgt := 2) C dX0_wasToldAhead_47 (by decide) ?_
      refine g_sub (lv' := [(0, .ref (xad X 91)), (1, .int a0), (2, .int a1), (3, .int (x3 + (1 : Int32)))]) [1, 2, 3, 0] rfl ?_
      exact hk2 (x3 + (1 : Int32))
    · refine g_aload_n (pc := 22) C dX0_wasToldAhead_22 rfl 0 rfl ?_
      refine gf_X0_9 (pc := 23) (u := 92) C kd_91 rfl dX0_wasToldAhead_23 ?_
      refine g_iload_n (pc := 26) C dX0_wasToldAhead_26 rfl 3 rfl ?_
      refine g_iald (pc := 27) C kd_92 dX0_wasToldAhead_27 ?_
      refine g_aload_n (pc := 28) C dX0_wasToldAhead_28 rfl 0 rfl ?_
      refine gf_X0_9 (pc := 29) (u := 92) C kd_91 rfl dX0_wasToldAhead_29 ?_
      refine g_iload_n (pc := 32) C dX0_wasToldAhead_32 rfl 1 rfl ?_
      refine g_iald (pc := 33) C kd_92 dX0_wasToldAhead_33 ?_
      refine g_isub (pc := 34) C dX0_wasToldAhead_34 ?_
      refine g_mabs (pc := 35) C (by decide) (Nat.le_of_ble_eq_true rfl) wm_X0_35 wS_J9_abs_0f7a4 wi_J9 wC_J9_abs_0f7a4 dX0_wasToldAhead_35 ?_
      refine g_iload_n (pc := 38) C dX0_wasToldAhead_38 rfl 2 rfl ?_
      refine g_icmp_gt (pc := 39) (tgt := 44) C dX0_wasToldAhead_39 (by decide) ?_ ?_
      · refine g_iinc (pc := 44) (j := 3) (lv' := [(3, .int (x3 + (1 : Int32))), (0, .ref (xad X 91)), (1, .int a0), (2, .int a1)]) C dX0_wasToldAhead_44 rfl (ii_1 _) (by decide) rfl ?_
        refine g_goto (pc := 47) (tgt := 2) C dX0_wasToldAhead_47 (by decide) ?_
        refine g_sub (lv' := [(0, .ref (xad X 91)), (1, .int a0), (2, .int a1), (3, .int (x3 + (1 : Int32)))]) [1, 2, 3, 0] rfl ?_
        exact hk2 (x3 + (1 : Int32))
      · refine g_iconst (pc := 42) C dX0_wasToldAhead_42 ic_iconst_1 ?_
        exact g_zretk (pc := 43) C rfl dX0_wasToldAhead_43 rfl rfl

theorem g_X0_wasToldAhead_h2 {X : gX} (C : gC X cX0_wasToldAhead RX0 4 (some .boolean) 1 19) (F : Nat) (a0 : Int32) (a1 : Int32) (M : gM) : ∀ (n : Nat) (x3 : Int32), G X (gQm X rvR (rMR M)) 4 M [(0, .ref (xad X 91)), (1, .int a0), (2, .int a1), (3, .int x3)] [] 2 (f_X0_wasToldAhead_h2 F a0 a1 M n x3) := by
  intro n
  induction n with
  | zero =>
    intro x3 r hr
    have hr2 : (none : Option Int32) = some r := hr
    cases hr2
  | succ n ih =>
    intro x3
    exact g_X0_wasToldAhead_h2_b C F a0 a1 M _ ih x3
set_option maxRecDepth 100000 in
set_option maxHeartbeats 4000000 in
theorem c_X0_wasToldAhead (F : Nat) (a0 : Int32) (a1 : Int32)  (M : gM) : gCt yX0_wasToldAhead cX0_wasToldAhead 4 (some .boolean) 1 19 (fun ad K V => [.ref (ad 91), .int a0, .int a1]) rvR (rMR M) M (f_X0_wasToldAhead F a0 a1 M) := by
  refine g_met (y := yX0_wasToldAhead) (by decide +kernel) (fun _ _ _ => Nat.le_of_ble_eq_true rfl) (fun X C => ?_)
  show G X (gQm X rvR (rMR M)) 4 M [(0, .ref (xad X 91)), (1, .int a0), (2, .int a1)] [] 0 (f_X0_wasToldAhead F a0 a1 M)
  unfold f_X0_wasToldAhead
  refine g_iconst (pc := 0) C dX0_wasToldAhead_0 ic_iconst_0 ?_
  refine g_istore_n (pc := 1) (lv' := [(3, .int (0 : Int32)), (0, .ref (xad X 91)), (1, .int a0), (2, .int a1)]) C dX0_wasToldAhead_1 rfl (by decide) rfl ?_
  refine g_sub (lv' := [(0, .ref (xad X 91)), (1, .int a0), (2, .int a1), (3, .int (0 : Int32))]) [1, 2, 3, 0] rfl ?_
  exact g_X0_wasToldAhead_h2 C F a0 a1 M F (0 : Int32)

/-! X0_firstWrong -/
set_option maxRecDepth 100000 in
set_option maxHeartbeats 4000000 in
theorem g_X0_firstWrong_h2_b {X : gX} (C : gC X cX0_firstWrong RX0 3 (some .int) 2 43) (F : Nat) (a0 : Int32) (M : gM) (k2 : Int32 → Option Int32) (hk2 : ∀ (x2 : Int32), G X (gQm X rvR (rMR M)) 3 M [(0, .ref (xad X 91)), (1, .int a0), (2, .int x2)] [] 2 (k2 x2)) (x2 : Int32) : G X (gQm X rvR (rMR M)) 3 M [(0, .ref (xad X 91)), (1, .int a0), (2, .int x2)] [] 2 (f_X0_firstWrong_h2_b F a0 M k2 x2) := by
  unfold f_X0_firstWrong_h2_b
  refine g_iload_n (pc := 2) C dX0_firstWrong_2 rfl 2 rfl ?_
  refine g_aload_n (pc := 3) C dX0_firstWrong_3 rfl 0 rfl ?_
  refine gf_X0_22 (pc := 4) C kd_91 dX0_firstWrong_4 ?_
  refine g_icmp_ge (pc := 7) (tgt := 49) C dX0_firstWrong_7 (by decide) ?_ ?_
  · refine g_iconst (pc := 49) C dX0_firstWrong_49 ic_iconst_m1 ?_
    exact g_iret (pc := 50) C dX0_firstWrong_50 rfl rfl
  · refine g_aload_n (pc := 10) C dX0_firstWrong_10 rfl 0 rfl ?_
    refine gf_X0_18 (pc := 11) (u := 3) C kd_91 rfl dX0_firstWrong_11 ?_
    refine g_aload_n (pc := 14) C dX0_firstWrong_14 rfl 0 rfl ?_
    refine gf_X0_15 (pc := 15) (u := 93) C kd_91 rfl dX0_firstWrong_15 ?_
    refine g_iload_n (pc := 18) C dX0_firstWrong_18 rfl 2 rfl ?_
    refine g_iald (pc := 19) C kd_93 dX0_firstWrong_19 ?_
    refine g_aload_n (pc := 20) C dX0_firstWrong_20 rfl 0 rfl ?_
    refine gf_X0_9 (pc := 21) (u := 92) C kd_91 rfl dX0_firstWrong_21 ?_
    refine g_iload_n (pc := 24) C dX0_firstWrong_24 rfl 2 rfl ?_
    refine g_iald (pc := 25) C kd_92 dX0_firstWrong_25 ?_
    refine g_callR (pc := 26) C (g_runVN (stk := []) C (c_X7_isFree 3 (M 93 x2.toNatClampNeg) (M 92 x2.toNatClampNeg) kd_3 M) rfl rfl rfl kd_3 rfl wC_X7_isFree wI_X7_isFree wV_X7_isFree wi_X7 wnm_X0_26 hy_X7_isFree (by decide) (Nat.le_of_ble_eq_true rfl) dX0_firstWrong_26) (fun r1 => ?_)
    refine g_if_eq (pc := 29) (tgt := 41) C dX0_firstWrong_29 (by decide) ?_ ?_
    · refine g_iload_n (pc := 41) C dX0_firstWrong_41 rfl 2 rfl ?_
      exact g_iret (pc := 42) C dX0_firstWrong_42 rfl rfl
    · refine g_aload_n (pc := 32) C dX0_firstWrong_32 rfl 0 rfl ?_
      refine g_iload_n (pc := 33) C dX0_firstWrong_33 rfl 2 rfl ?_
      refine g_iload_n (pc := 34) C dX0_firstWrong_34 rfl 1 rfl ?_
      refine g_callR (pc := 35) C (g_runV (stk := []) C (c_X0_wasToldAhead F x2 a0 M) rfl rfl rfl kd_91 rfl wC_X0_wasToldAhead wI_X0_wasToldAhead wV_X0_wasToldAhead wi_X0 wm_X0_32 hy_X0_wasToldAhead (by decide) (Nat.le_of_ble_eq_true rfl) dX0_firstWrong_35) (fun r2 => ?_)
      refine g_if_eq (pc := 38) (tgt := 43) C dX0_firstWrong_38 (by decide) ?_ ?_
      · refine g_iinc (pc := 43) (j := 2) (lv' := [(2, .int (x2 + (1 : Int32))), (0, .ref (xad X 91)), (1, .int a0)]) C dX0_firstWrong_43 rfl (ii_1 _) (by decide) rfl ?_
        refine g_goto (pc := 46) (tgt := 2) C dX0_firstWrong_46 (by decide) ?_
        refine g_sub (lv' := [(0, .ref (xad X 91)), (1, .int a0), (2, .int (x2 + (1 : Int32)))]) [1, 2, 0] rfl ?_
        exact hk2 (x2 + (1 : Int32))
      · refine g_iload_n (pc := 41) C dX0_firstWrong_41 rfl 2 rfl ?_
        exact g_iret (pc := 42) C dX0_firstWrong_42 rfl rfl

theorem g_X0_firstWrong_h2 {X : gX} (C : gC X cX0_firstWrong RX0 3 (some .int) 2 43) (F : Nat) (a0 : Int32) (M : gM) : ∀ (n : Nat) (x2 : Int32), G X (gQm X rvR (rMR M)) 3 M [(0, .ref (xad X 91)), (1, .int a0), (2, .int x2)] [] 2 (f_X0_firstWrong_h2 F a0 M n x2) := by
  intro n
  induction n with
  | zero =>
    intro x2 r hr
    have hr2 : (none : Option Int32) = some r := hr
    cases hr2
  | succ n ih =>
    intro x2
    exact g_X0_firstWrong_h2_b C F a0 M _ ih x2
set_option maxRecDepth 100000 in
set_option maxHeartbeats 4000000 in
theorem c_X0_firstWrong (F : Nat) (a0 : Int32)  (M : gM) : gCt yX0_firstWrong cX0_firstWrong 3 (some .int) 2 43 (fun ad K V => [.ref (ad 91), .int a0]) rvR (rMR M) M (f_X0_firstWrong F a0 M) := by
  refine g_met (y := yX0_firstWrong) (by decide +kernel) (fun _ _ _ => Nat.le_of_ble_eq_true rfl) (fun X C => ?_)
  show G X (gQm X rvR (rMR M)) 3 M [(0, .ref (xad X 91)), (1, .int a0)] [] 0 (f_X0_firstWrong F a0 M)
  unfold f_X0_firstWrong
  refine g_iconst (pc := 0) C dX0_firstWrong_0 ic_iconst_0 ?_
  refine g_istore_n (pc := 1) (lv' := [(2, .int (0 : Int32)), (0, .ref (xad X 91)), (1, .int a0)]) C dX0_firstWrong_1 rfl (by decide) rfl ?_
  refine g_sub (lv' := [(0, .ref (xad X 91)), (1, .int a0), (2, .int (0 : Int32))]) [1, 2, 0] rfl ?_
  exact g_X0_firstWrong_h2 C F a0 M F (0 : Int32)

/-! X1_addSet -/
set_option maxRecDepth 100000 in
set_option maxHeartbeats 4000000 in
theorem g_X1_addSet_h93_b {X : gX} (C : gC X cX1_addSet RX1 8 none 1 19) (F : Nat) (a0 : Int32) (a1 : Int32) (a2 : Int32) (k93 : Nat → Int32 → Int32 → Int32 → gM → Option gM) (hk93 : ∀ (y4 : Nat) (x5 : Int32) (x6 : Int32) (x7 : Int32) (M : gM) (hy4 : kd y4 = gKi 64), G X (gQm X rvV rMV) 8 M [(0, .ref (xad X 43)), (1, .int a0), (2, .int a1), (3, .int a2), (4, .ref (xad X y4)), (5, .int x5), (6, .int x6), (7, .int x7)] [] 93 (k93 y4 x5 x6 x7 M)) (y4 : Nat) (x5 : Int32) (x6 : Int32) (x7 : Int32) (M : gM) (hy4 : kd y4 = gKi 64) : G X (gQm X rvV rMV) 8 M [(0, .ref (xad X 43)), (1, .int a0), (2, .int a1), (3, .int a2), (4, .ref (xad X y4)), (5, .int x5), (6, .int x6), (7, .int x7)] [] 93 (f_X1_addSet_h93_b F a0 a1 a2 k93 y4 x5 x6 x7 M) := by
  unfold f_X1_addSet_h93_b
  refine g_iload (pc := 93) C dX1_addSet_93 7 rfl ?_
  refine g_iload (pc := 95) C dX1_addSet_95 6 rfl ?_
  refine g_icmp_le (pc := 97) (tgt := 138) C dX1_addSet_97 (by decide) ?_ ?_
  · refine g_aload (pc := 138) C dX1_addSet_138 4 rfl ?_
    refine g_iload (pc := 140) C dX1_addSet_140 6 rfl ?_
    refine g_iload_n (pc := 142) C dX1_addSet_142 rfl 2 rfl ?_
    refine g_iast (pc := 143) C hy4 dX1_addSet_143 ?_
    refine g_ltM (fun M3 => ?_)
    refine g_aload_n (pc := 144) C dX1_addSet_144 rfl 0 rfl ?_
    refine gf_X1_20 (pc := 145) (u := 59) C kd_43 rfl dX1_addSet_145 ?_
    refine g_iload_n (pc := 148) C dX1_addSet_148 rfl 1 rfl ?_
    refine g_aaldh (pc := 149) C kd_59 dX1_addSet_149 (fun hb4 => ?_)
    refine g_iload (pc := 150) C dX1_addSet_150 6 rfl ?_
    refine g_iload_n (pc := 152) C dX1_addSet_152 rfl 3 rfl ?_
    refine g_iast (pc := 153) C (kg_59 hb4) dX1_addSet_153 ?_
    refine g_ltM (fun M5 => ?_)
    refine g_aload_n (pc := 154) C dX1_addSet_154 rfl 0 rfl ?_
    refine gf_X1_9 (pc := 155) (u := 44) C kd_43 rfl dX1_addSet_155 ?_
    refine g_iload_n (pc := 158) C dX1_addSet_158 rfl 1 rfl ?_
    refine g_iload (pc := 159) C dX1_addSet_159 5 rfl ?_
    refine g_iconst (pc := 161) C dX1_addSet_161 ic_iconst_1 ?_
    refine g_iadd (pc := 162) C dX1_addSet_162 ?_
    refine g_iast (pc := 163) C kd_44 dX1_addSet_163 ?_
    refine g_ltM (fun M6 => ?_)
    exact g_vret (pc := 164) C dX1_addSet_164 rfl rfl
  · refine g_aload (pc := 100) C dX1_addSet_100 4 rfl ?_
    refine g_iload (pc := 102) C dX1_addSet_102 7 rfl ?_
    refine g_aload (pc := 104) C dX1_addSet_104 4 rfl ?_
    refine g_iload (pc := 106) C dX1_addSet_106 7 rfl ?_
    refine g_iconst (pc := 108) C dX1_addSet_108 ic_iconst_1 ?_
    refine g_isub (pc := 109) C dX1_addSet_109 ?_
    refine g_iald (pc := 110) C hy4 dX1_addSet_110 ?_
    refine g_iast (pc := 111) C hy4 dX1_addSet_111 ?_
    refine g_ltM (fun M7 => ?_)
    refine g_aload_n (pc := 112) C dX1_addSet_112 rfl 0 rfl ?_
    refine gf_X1_20 (pc := 113) (u := 59) C kd_43 rfl dX1_addSet_113 ?_
    refine g_iload_n (pc := 116) C dX1_addSet_116 rfl 1 rfl ?_
    refine g_aaldh (pc := 117) C kd_59 dX1_addSet_117 (fun hb8 => ?_)
    refine g_iload (pc := 118) C dX1_addSet_118 7 rfl ?_
    refine g_aload_n (pc := 120) C dX1_addSet_120 rfl 0 rfl ?_
    refine gf_X1_20 (pc := 121) (u := 59) C kd_43 rfl dX1_addSet_121 ?_
    refine g_iload_n (pc := 124) C dX1_addSet_124 rfl 1 rfl ?_
    refine g_aaldh (pc := 125) C kd_59 dX1_addSet_125 (fun hb9 => ?_)
    refine g_iload (pc := 126) C dX1_addSet_126 7 rfl ?_
    refine g_iconst (pc := 128) C dX1_addSet_128 ic_iconst_1 ?_
    refine g_isub (pc := 129) C dX1_addSet_129 ?_
    refine g_iald (pc := 130) C (kg_59 hb9) dX1_addSet_130 ?_
    refine g_iast (pc := 131) C (kg_59 hb8) dX1_addSet_131 ?_
    refine g_ltM (fun M10 => ?_)
    refine g_iinc (pc := 132) (j := 7) (lv' := [(7, .int (x7 + (-1 : Int32))), (0, .ref (xad X 43)), (1, .int a0), (2, .int a1), (3, .int a2), (4, .ref (xad X y4)), (5, .int x5), (6, .int x6)]) C dX1_addSet_132 rfl (ii_m1 _) (by decide) rfl ?_
    refine g_goto (pc := 135) (tgt := 93) C dX1_addSet_135 (by decide) ?_
    refine g_sub (lv' := [(0, .ref (xad X 43)), (1, .int a0), (2, .int a1), (3, .int a2), (4, .ref (xad X y4)), (5, .int x5), (6, .int x6), (7, .int (x7 + (-1 : Int32)))]) [1, 2, 3, 4, 5, 6, 7, 0] rfl ?_
    exact hk93 y4 x5 x6 (x7 + (-1 : Int32)) M10 hy4

theorem g_X1_addSet_h93 {X : gX} (C : gC X cX1_addSet RX1 8 none 1 19) (F : Nat) (a0 : Int32) (a1 : Int32) (a2 : Int32) : ∀ (n : Nat) (y4 : Nat) (x5 : Int32) (x6 : Int32) (x7 : Int32) (M : gM)  (hy4 : kd y4 = gKi 64), G X (gQm X rvV rMV) 8 M [(0, .ref (xad X 43)), (1, .int a0), (2, .int a1), (3, .int a2), (4, .ref (xad X y4)), (5, .int x5), (6, .int x6), (7, .int x7)] [] 93 (f_X1_addSet_h93 F a0 a1 a2 n y4 x5 x6 x7 M) := by
  intro n
  induction n with
  | zero =>
    intro y4 x5 x6 x7 M hy4 r hr
    have hr2 : (none : Option gM) = some r := hr
    cases hr2
  | succ n ih =>
    intro y4 x5 x6 x7 M hy4
    exact g_X1_addSet_h93_b C F a0 a1 a2 _ ih y4 x5 x6 x7 M hy4
set_option maxRecDepth 100000 in
set_option maxHeartbeats 4000000 in
theorem g_X1_addSet_b81 {X : gX} (C : gC X cX1_addSet RX1 8 none 1 19) (F : Nat) (a0 : Int32) (a1 : Int32) (a2 : Int32) (y4 : Nat) (x5 : Int32) (x6 : Int32) (M : gM) (hy4 : kd y4 = gKi 64) : G X (gQm X rvV rMV) 8 M [(0, .ref (xad X 43)), (1, .int a0), (2, .int a1), (3, .int a2), (4, .ref (xad X y4)), (5, .int x5), (6, .int x6)] [] 81 (f_X1_addSet_b81 F a0 a1 a2 y4 x5 x6 M) := by
  unfold f_X1_addSet_b81
  refine g_iload (pc := 81) C dX1_addSet_81 5 rfl ?_
  refine g_bipush (pc := 83) C dX1_addSet_83 ic_bipush_64 ?_
  refine g_icmp_lt (pc := 85) (tgt := 89) C dX1_addSet_85 (by decide) ?_ ?_
  · refine g_iload (pc := 89) C dX1_addSet_89 5 rfl ?_
    refine g_istore (pc := 91) (lv' := [(7, .int x5), (0, .ref (xad X 43)), (1, .int a0), (2, .int a1), (3, .int a2), (4, .ref (xad X y4)), (5, .int x5), (6, .int x6)]) C dX1_addSet_91 (by decide) rfl ?_
    refine g_sub (lv' := [(0, .ref (xad X 43)), (1, .int a0), (2, .int a1), (3, .int a2), (4, .ref (xad X y4)), (5, .int x5), (6, .int x6), (7, .int x5)]) [1, 2, 3, 4, 5, 6, 7, 0] rfl ?_
    exact g_X1_addSet_h93 C F a0 a1 a2 F y4 x5 x6 x5 M hy4
  · exact g_vret (pc := 88) C dX1_addSet_88 rfl rfl

set_option maxRecDepth 100000 in
set_option maxHeartbeats 4000000 in
theorem g_X1_addSet_b42 {X : gX} (C : gC X cX1_addSet RX1 8 none 1 19) (F : Nat) (a0 : Int32) (a1 : Int32) (a2 : Int32) (y4 : Nat) (x5 : Int32) (x6 : Int32) (M : gM) (hy4 : kd y4 = gKi 64) : G X (gQm X rvV rMV) 8 M [(0, .ref (xad X 43)), (1, .int a0), (2, .int a1), (3, .int a2), (4, .ref (xad X y4)), (5, .int x5), (6, .int x6)] [] 42 (f_X1_addSet_b42 F a0 a1 a2 y4 x5 x6 M) := by
  unfold f_X1_addSet_b42
  refine g_iload (pc := 42) C dX1_addSet_42 6 rfl ?_
  refine g_iload (pc := 44) C dX1_addSet_44 5 rfl ?_
  refine g_icmp_ge (pc := 46) (tgt := 81) C dX1_addSet_46 (by decide) ?_ ?_
  · exact g_X1_addSet_b81 C F a0 a1 a2 y4 x5 x6 M hy4
  · refine g_aload (pc := 49) C dX1_addSet_49 4 rfl ?_
    refine g_iload (pc := 51) C dX1_addSet_51 6 rfl ?_
    refine g_iald (pc := 53) C hy4 dX1_addSet_53 ?_
    refine g_iload_n (pc := 54) C dX1_addSet_54 rfl 2 rfl ?_
    refine g_icmp_ne (pc := 55) (tgt := 81) C dX1_addSet_55 (by decide) ?_ ?_
    · exact g_X1_addSet_b81 C F a0 a1 a2 y4 x5 x6 M hy4
    · refine g_aload_n (pc := 58) C dX1_addSet_58 rfl 0 rfl ?_
      refine gf_X1_20 (pc := 59) (u := 59) C kd_43 rfl dX1_addSet_59 ?_
      refine g_iload_n (pc := 62) C dX1_addSet_62 rfl 1 rfl ?_
      refine g_aaldh (pc := 63) C kd_59 dX1_addSet_63 (fun hb11 => ?_)
      refine g_iload (pc := 64) C dX1_addSet_64 6 rfl ?_
      refine g_aload_n (pc := 66) C dX1_addSet_66 rfl 0 rfl ?_
      refine gf_X1_20 (pc := 67) (u := 59) C kd_43 rfl dX1_addSet_67 ?_
      refine g_iload_n (pc := 70) C dX1_addSet_70 rfl 1 rfl ?_
      refine g_aaldh (pc := 71) C kd_59 dX1_addSet_71 (fun hb12 => ?_)
      refine g_iload (pc := 72) C dX1_addSet_72 6 rfl ?_
      refine g_iald (pc := 74) C (kg_59 hb12) dX1_addSet_74 ?_
      refine g_iload_n (pc := 75) C dX1_addSet_75 rfl 3 rfl ?_
      refine g_mmin (pc := 76) C (by decide) (Nat.le_of_ble_eq_true rfl) wm_X1_76 wS_J9_min_7cf53 wi_J9 wC_J9_min_7cf53 dX1_addSet_76 ?_
      refine g_iast (pc := 79) C (kg_59 hb11) dX1_addSet_79 ?_
      refine g_ltM (fun M13 => ?_)
      exact g_vret (pc := 80) C dX1_addSet_80 rfl rfl

set_option maxRecDepth 100000 in
set_option maxHeartbeats 4000000 in
theorem g_X1_addSet_h20_b {X : gX} (C : gC X cX1_addSet RX1 8 none 1 19) (F : Nat) (a0 : Int32) (a1 : Int32) (a2 : Int32) (k20 : Nat → Int32 → Int32 → gM → Option gM) (hk20 : ∀ (y4 : Nat) (x5 : Int32) (x6 : Int32) (M : gM) (hy4 : kd y4 = gKi 64), G X (gQm X rvV rMV) 8 M [(0, .ref (xad X 43)), (1, .int a0), (2, .int a1), (3, .int a2), (4, .ref (xad X y4)), (5, .int x5), (6, .int x6)] [] 20 (k20 y4 x5 x6 M)) (y4 : Nat) (x5 : Int32) (x6 : Int32) (M : gM) (hy4 : kd y4 = gKi 64) : G X (gQm X rvV rMV) 8 M [(0, .ref (xad X 43)), (1, .int a0), (2, .int a1), (3, .int a2), (4, .ref (xad X y4)), (5, .int x5), (6, .int x6)] [] 20 (f_X1_addSet_h20_b F a0 a1 a2 k20 y4 x5 x6 M) := by
  unfold f_X1_addSet_h20_b
  refine g_iload (pc := 20) C dX1_addSet_20 6 rfl ?_
  refine g_if_le (pc := 22) (tgt := 42) C dX1_addSet_22 (by decide) ?_ ?_
  · exact g_X1_addSet_b42 C F a0 a1 a2 y4 x5 x6 M hy4
  · refine g_aload (pc := 25) C dX1_addSet_25 4 rfl ?_
    refine g_iload (pc := 27) C dX1_addSet_27 6 rfl ?_
    refine g_iconst (pc := 29) C dX1_addSet_29 ic_iconst_1 ?_
    refine g_isub (pc := 30) C dX1_addSet_30 ?_
    refine g_iald (pc := 31) C hy4 dX1_addSet_31 ?_
    refine g_iload_n (pc := 32) C dX1_addSet_32 rfl 2 rfl ?_
    refine g_icmp_lt (pc := 33) (tgt := 42) C dX1_addSet_33 (by decide) ?_ ?_
    · exact g_X1_addSet_b42 C F a0 a1 a2 y4 x5 x6 M hy4
    · refine g_iinc (pc := 36) (j := 6) (lv' := [(6, .int (x6 + (-1 : Int32))), (0, .ref (xad X 43)), (1, .int a0), (2, .int a1), (3, .int a2), (4, .ref (xad X y4)), (5, .int x5)]) C dX1_addSet_36 rfl (ii_m1 _) (by decide) rfl ?_
      refine g_goto (pc := 39) (tgt := 20) C dX1_addSet_39 (by decide) ?_
      refine g_sub (lv' := [(0, .ref (xad X 43)), (1, .int a0), (2, .int a1), (3, .int a2), (4, .ref (xad X y4)), (5, .int x5), (6, .int (x6 + (-1 : Int32)))]) [1, 2, 3, 4, 5, 6, 0] rfl ?_
      exact hk20 y4 x5 (x6 + (-1 : Int32)) M hy4

theorem g_X1_addSet_h20 {X : gX} (C : gC X cX1_addSet RX1 8 none 1 19) (F : Nat) (a0 : Int32) (a1 : Int32) (a2 : Int32) : ∀ (n : Nat) (y4 : Nat) (x5 : Int32) (x6 : Int32) (M : gM)  (hy4 : kd y4 = gKi 64), G X (gQm X rvV rMV) 8 M [(0, .ref (xad X 43)), (1, .int a0), (2, .int a1), (3, .int a2), (4, .ref (xad X y4)), (5, .int x5), (6, .int x6)] [] 20 (f_X1_addSet_h20 F a0 a1 a2 n y4 x5 x6 M) := by
  intro n
  induction n with
  | zero =>
    intro y4 x5 x6 M hy4 r hr
    have hr2 : (none : Option gM) = some r := hr
    cases hr2
  | succ n ih =>
    intro y4 x5 x6 M hy4
    exact g_X1_addSet_h20_b C F a0 a1 a2 _ ih y4 x5 x6 M hy4
set_option maxRecDepth 100000 in
set_option maxHeartbeats 4000000 in
theorem c_X1_addSet (F : Nat) (a0 : Int32) (a1 : Int32) (a2 : Int32)  (M : gM) : gCt yX1_addSet cX1_addSet 8 none 1 19 (fun ad K V => [.ref (ad 43), .int a0, .int a1, .int a2]) rvV rMV M (f_X1_addSet F a0 a1 a2 M) := by
  refine g_met (y := yX1_addSet) (by decide +kernel) (fun _ _ _ => Nat.le_of_ble_eq_true rfl) (fun X C => ?_)
  show G X (gQm X rvV rMV) 8 M [(0, .ref (xad X 43)), (1, .int a0), (2, .int a1), (3, .int a2)] [] 0 (f_X1_addSet F a0 a1 a2 M)
  unfold f_X1_addSet
  refine g_aload_n (pc := 0) C dX1_addSet_0 rfl 0 rfl ?_
  refine gf_X1_17 (pc := 1) (u := 45) C kd_43 rfl dX1_addSet_1 ?_
  refine g_iload_n (pc := 4) C dX1_addSet_4 rfl 1 rfl ?_
  refine g_aaldh (pc := 5) C kd_45 dX1_addSet_5 (fun hb1 => ?_)
  refine g_astore (pc := 6) (lv' := [(4, .ref (xad X (rf 45 a0.toNatClampNeg))), (0, .ref (xad X 43)), (1, .int a0), (2, .int a1), (3, .int a2)]) C dX1_addSet_6 (by decide) rfl ?_
  refine g_aload_n (pc := 8) C dX1_addSet_8 rfl 1 rfl ?_
  refine gf_X1_9 (pc := 9) (u := 44) C kd_43 rfl dX1_addSet_9 ?_
  refine g_iload_n (pc := 12) C dX1_addSet_12 rfl 2 rfl ?_
  refine g_iald (pc := 13) C kd_44 dX1_addSet_13 ?_
  refine g_lt (fun v2 => ?_)
  refine g_istore (pc := 14) (lv' := [(5, .int v2), (4, .ref (xad X (rf 45 a0.toNatClampNeg))), (0, .ref (xad X 43)), (1, .int a0), (2, .int a1), (3, .int a2)]) C dX1_addSet_14 (by decide) rfl ?_
  refine g_iload (pc := 16) C dX1_addSet_16 0 rfl ?_
  refine g_istore (pc := 18) (lv' := [(6, .int v2), (5, .int v2), (4, .ref (xad X (rf 45 a0.toNatClampNeg))), (0, .ref (xad X 43)), (1, .int a0), (2, .int a1), (3, .int a2)]) C dX1_addSet_18 (by decide) rfl ?_
  refine g_sub (lv' := [(0, .ref (xad X 43)), (1, .int a0), (2, .int a1), (3, .int a2), (4, .ref (xad X (rf 45 a0.toNatClampNeg))), (5, .int v2), (6, .int v2)]) [3, 4, 5, 6, 2, 1, 0] rfl ?_
  exact g_X1_addSet_h20 C F a0 a1 a2 F (rf 45 a0.toNatClampNeg) v2 v2 M (kg_45 hb1)

/-! X1_firstCheapest -/
set_option maxRecDepth 100000 in
set_option maxHeartbeats 4000000 in
theorem g_X1_firstCheapest_b53 {X : gX} (C : gC X cX1_firstCheapest RX1 7 (some .int) 0 0) (F : Nat) (a0 : Int32) (a1 : Int32) (a2 : Int32) (M : gM) (k10 : Int32 → Int32 → Int32 → Option Int32) (hk10 : ∀ (x4 : Int32) (x5 : Int32) (x6 : Int32), G X (gQm X rvR (rMR M)) 7 M [(0, .ref (xad X 43)), (1, .int a0), (2, .int a1), (3, .int a2), (4, .int x4), (5, .int x5), (6, .int x6)] [] 10 (k10 x4 x5 x6)) (x6 : Int32) : G X (gQm X rvR (rMR M)) 7 M [(0, .ref (xad X 43)), (1, .int a0), (2, .int a1), (3, .int a2), (6, .int x6)] [] 53 (f_X1_firstCheapest_b53 F a0 a1 a2 M k10 x6) := by
  unfold f_X1_firstCheapest_b53
  refine g_aload_n (pc := 53) C dX1_firstCheapest_53 rfl 0 rfl ?_
  refine gf_X1_23 (pc := 54) (u := 73) C kd_43 rfl dX1_firstCheapest_54 ?_
  refine g_iload_n (pc := 57) C dX1_firstCheapest_57 rfl 1 rfl ?_
  refine g_aaldh (pc := 58) C kd_73 dX1_firstCheapest_58 (fun hb2 => ?_)
  refine g_iload (pc := 59) C dX1_firstCheapest_59 4 rfl ?_
  refine g_iald (pc := 61) C (kg_73 hb2) dX1_firstCheapest_61 ?_
  refine g_lt (fun v3 => ?_)
  refine g_istore (pc := 62) (lv' := [(5, .int v3), (0, .ref (xad X 43)), (1, .int a0), (2, .int a1), (3, .int a2), (6, .int x6)]) C dX1_firstCheapest_62 (by decide) rfl ?_
  refine g_iload (pc := 64) C dX1_firstCheapest_64 5 rfl ?_
  refine g_istore (pc := 66) (lv' := [(4, .int x6), (5, .int v3), (0, .ref (xad X 43)), (1, .int a0), (2, .int a1), (3, .int a2), (6, .int x6)]) C dX1_firstCheapest_66 (by decide) rfl ?_
  refine g_iinc (pc := 68) (j := 6) (lv' := [(6, .int (x6 + (1 : Int32))), (4, .int x6), (5, .int v3), (0, .ref (xad X 43)), (1, .int a0), (2, .int a1), (3, .int a2)]) C dX1_firstCheapest_68 rfl (ii_1 _) (by decide) rfl ?_
  refine g_goto (pc := 71) (tgt := 10) C dX1_firstCheapest_71 (by decide) ?_
  refine g_sub (lv' := [(0, .ref (xad X 43)), (1, .int a0), (2, .int a1), (3, .int a2), (4, .int x6), (5, .int v3), (6, .int (x6 + (1 : Int32)))]) [3, 4, 5, 6, 1, 2, 0] rfl ?_
  exact hk10 x6 v3 (x6 + (1 : Int32))

set_option maxRecDepth 100000 in
set_option maxHeartbeats 4000000 in
theorem g_X1_firstCheapest_h10_b {X : gX} (C : gC X cX1_firstCheapest RX1 7 (some .int) 0 0) (F : Nat) (a0 : Int32) (a1 : Int32) (a2 : Int32) (M : gM) (k10 : Int32 → Int32 → Int32 → Option Int32) (hk10 : ∀ (x4 : Int32) (x5 : Int32) (x6 : Int32), G X (gQm X rvR (rMR M)) 7 M [(0, .ref (xad X 43)), (1, .int a0), (2, .int a1), (3, .int a2), (4, .int x4), (5, .int x5), (6, .int x6)] [] 10 (k10 x4 x5 x6)) (x4 : Int32) (x5 : Int32) (x6 : Int32) : G X (gQm X rvR (rMR M)) 7 M [(0, .ref (xad X 43)), (1, .int a0), (2, .int a1), (3, .int a2), (4, .int x4), (5, .int x5), (6, .int x6)] [] 10 (f_X1_firstCheapest_h10_b F a0 a1 a2 M k10 x4 x5 x6) := by
  unfold f_X1_firstCheapest_h10_b
  refine g_iload (pc := 10) C dX1_firstCheapest_10 6 rfl ?_
  refine g_aload_n (pc := 12) C dX1_firstCheapest_12 rfl 0 rfl ?_
  refine gf_X1_9 (pc := 13) (u := 44) C kd_43 rfl dX1_firstCheapest_13 ?_
  refine g_iload_n (pc := 16) C dX1_firstCheapest_16 rfl 1 rfl ?_
  refine g_iald (pc := 17) C kd_44 dX1_firstCheapest_17 ?_
  refine g_icmp_ge (pc := 18) (tgt := 74) C dX1_firstCheapest_18 (by decide) ?_ ?_
  · refine g_iload (pc := 74) C dX1_firstCheapest_74 4 rfl ?_
    exact g_iret (pc := 76) C dX1_firstCheapest_76 rfl rfl
  · refine g_aload_n (pc := 21) C dX1_firstCheapest_21 rfl 0 rfl ?_
    refine gf_X1_23 (pc := 22) (u := 73) C kd_43 rfl dX1_firstCheapest_22 ?_
    refine g_iload_n (pc := 25) C dX1_firstCheapest_25 rfl 1 rfl ?_
    refine g_aaldh (pc := 26) C kd_73 dX1_firstCheapest_26 (fun hb1 => ?_)
    refine g_iload (pc := 27) C dX1_firstCheapest_27 6 rfl ?_
    refine g_iald (pc := 29) C (kg_73 hb1) dX1_firstCheapest_29 ?_
    refine g_iload (pc := 30) C dX1_firstCheapest_30 5 rfl ?_
    refine g_icmp_ge (pc := 32) (tgt := 68) C dX1_firstCheapest_32 (by decide) ?_ ?_
    · refine g_iinc (pc := 68) (j := 6) (lv' := [(6, .int (x6 + (1 : Int32))), (0, .ref (xad X 43)), (1, .int a0), (2, .int a1), (3, .int a2), (4, .int x4), (5, .int x5)]) C dX1_firstCheapest_68 rfl (ii_1 _) (by decide) rfl ?_
      refine g_goto (pc := 71) (tgt := 10) C dX1_firstCheapest_71 (by decide) ?_
      refine g_sub (lv' := [(0, .ref (xad X 43)), (1, .int a0), (2, .int a1), (3, .int a2), (4, .int x4), (5, .int x5), (6, .int (x6 + (1 : Int32)))]) [1, 2, 3, 4, 5, 6, 0] rfl ?_
      exact hk10 x4 x5 (x6 + (1 : Int32))
    · refine g_iload_n (pc := 35) C dX1_firstCheapest_35 rfl 3 rfl ?_
      refine g_if_eq (pc := 36) (tgt := 53) C dX1_firstCheapest_36 (by decide) ?_ ?_
      · refine g_sub (lv' := [(0, .ref (xad X 43)), (1, .int a0), (2, .int a1), (3, .int a2), (6, .int x6)]) [0, 1, 2, 3, 6] rfl ?_
        exact g_X1_firstCheapest_b53 C F a0 a1 a2 M k10 hk10 x6
      · refine g_aload_n (pc := 39) C dX1_firstCheapest_39 rfl 0 rfl ?_
        refine gf_X1_17 (pc := 40) (u := 45) C kd_43 rfl dX1_firstCheapest_40 ?_
        refine g_iload_n (pc := 43) C dX1_firstCheapest_43 rfl 1 rfl ?_
        refine g_aaldh (pc := 44) C kd_45 dX1_firstCheapest_44 (fun hb4 => ?_)
        refine g_iload (pc := 45) C dX1_firstCheapest_45 6 rfl ?_
        refine g_iald (pc := 47) C (kg_45 hb4) dX1_firstCheapest_47 ?_
        refine g_iload_n (pc := 48) C dX1_firstCheapest_48 rfl 2 rfl ?_
        refine g_iand (pc := 49) C dX1_firstCheapest_49 ?_
        refine g_if_ne (pc := 50) (tgt := 68) C dX1_firstCheapest_50 (by decide) ?_ ?_
        · refine g_iinc (pc := 68) (j := 6) (lv' := [(6, .int (x6 + (1 : Int32))), (0, .ref (xad X 43)), (1, .int a0), (2, .int a1), (3, .int a2), (4, .int x4), (5, .int x5)]) C dX1_firstCheapest_68 rfl (ii_1 _) (by decide) rfl ?_
          refine g_goto (pc := 71) (tgt := 10) C dX1_firstCheapest_71 (by decide) ?_
          refine g_sub (lv' := [(0, .ref (xad X 43)), (1, .int a0), (2, .int a1), (3, .int a2), (4, .int x4), (5, .int x5), (6, .int (x6 + (1 : Int32)))]) [1, 2, 3, 4, 5, 6, 0] rfl ?_
          exact hk10 x4 x5 (x6 + (1 : Int32))
        · refine g_sub (lv' := [(0, .ref (xad X 43)), (1, .int a0), (2, .int a1), (3, .int a2), (6, .int x6)]) [0, 1, 2, 3, 6] rfl ?_
          exact g_X1_firstCheapest_b53 C F a0 a1 a2 M k10 hk10 x6

theorem g_X1_firstCheapest_h10 {X : gX} (C : gC X cX1_firstCheapest RX1 7 (some .int) 0 0) (F : Nat) (a0 : Int32) (a1 : Int32) (a2 : Int32) (M : gM) : ∀ (n : Nat) (x4 : Int32) (x5 : Int32) (x6 : Int32), G X (gQm X rvR (rMR M)) 7 M [(0, .ref (xad X 43)), (1, .int a0), (2, .int a1), (3, .int a2), (4, .int x4), (5, .int x5), (6, .int x6)] [] 10 (f_X1_firstCheapest_h10 F a0 a1 a2 M n x4 x5 x6) := by
  intro n
  induction n with
  | zero =>
    intro x4 x5 x6 r hr
    have hr2 : (none : Option Int32) = some r := hr
    cases hr2
  | succ n ih =>
    intro x4 x5 x6
    exact g_X1_firstCheapest_h10_b C F a0 a1 a2 M _ ih x4 x5 x6
set_option maxRecDepth 100000 in
set_option maxHeartbeats 4000000 in
theorem c_X1_firstCheapest (F : Nat) (a0 : Int32) (a1 : Int32) (a2 : Int32)  (M : gM) : gCt yX1_firstCheapest cX1_firstCheapest 7 (some .int) 0 0 (fun ad K V => [.ref (ad 43), .int a0, .int a1, .int a2]) rvR (rMR M) M (f_X1_firstCheapest F a0 a1 a2 M) := by
  refine g_met (y := yX1_firstCheapest) (by decide +kernel) (fun _ _ _ => Nat.le_of_ble_eq_true rfl) (fun X C => ?_)
  show G X (gQm X rvR (rMR M)) 7 M [(0, .ref (xad X 43)), (1, .int a0), (2, .int a1), (3, .int a2)] [] 0 (f_X1_firstCheapest F a0 a1 a2 M)
  unfold f_X1_firstCheapest
  refine g_iconst (pc := 0) C dX1_firstCheapest_0 ic_iconst_m1 ?_
  refine g_istore (pc := 1) (lv' := [(4, .int (-1 : Int32)), (0, .ref (xad X 43)), (1, .int a0), (2, .int a1), (3, .int a2)]) C dX1_firstCheapest_1 (by decide) rfl ?_
  refine g_ldc (pc := 3) C wk_X1_86 dX1_firstCheapest_3 ?_
  refine g_istore (pc := 5) (lv' := [(5, .int (1000000000 : Int32)), (4, .int (-1 : Int32)), (0, .ref (xad X 43)), (1, .int a0), (2, .int a1), (3, .int a2)]) C dX1_firstCheapest_5 (by decide) rfl ?_
  refine g_iconst (pc := 7) C dX1_firstCheapest_7 ic_iconst_0 ?_
  refine g_istore (pc := 8) (lv' := [(6, .int (0 : Int32)), (5, .int (1000000000 : Int32)), (4, .int (-1 : Int32)), (0, .ref (xad X 43)), (1, .int a0), (2, .int a1), (3, .int a2)]) C dX1_firstCheapest_8 (by decide) rfl ?_
  refine g_sub (lv' := [(0, .ref (xad X 43)), (1, .int a0), (2, .int a1), (3, .int a2), (4, .int (-1 : Int32)), (5, .int (1000000000 : Int32)), (6, .int (0 : Int32))]) [3, 4, 5, 6, 2, 1, 0] rfl ?_
  exact g_X1_firstCheapest_h10 C F a0 a1 a2 M F (-1 : Int32) (1000000000 : Int32) (0 : Int32)

/-! X1_cheapestAfter -/
set_option maxRecDepth 100000 in
set_option maxHeartbeats 4000000 in
theorem c_X1_cheapestAfter (F : Nat) (a0 : Int32) (a1 : Int32) (a2 : Int32)  (M : gM) : gCt yX1_cheapestAfter cX1_cheapestAfter 5 (some .int) 1 26 (fun ad K V => [.ref (ad 43), .int a0, .int a1, .int a2]) rvR (rMR M) M (f_X1_cheapestAfter F a0 a1 a2 M) := by
  refine g_met (y := yX1_cheapestAfter) (by decide +kernel) (fun _ _ _ => Nat.le_of_ble_eq_true rfl) (fun X C => ?_)
  show G X (gQm X rvR (rMR M)) 5 M [(0, .ref (xad X 43)), (1, .int a0), (2, .int a1), (3, .int a2)] [] 0 (f_X1_cheapestAfter F a0 a1 a2 M)
  unfold f_X1_cheapestAfter
  refine g_iload_n (pc := 0) C dX1_cheapestAfter_0 rfl 1 rfl ?_
  refine g_iconst (pc := 1) C dX1_cheapestAfter_1 ic_iconst_1 ?_
  refine g_iadd (pc := 2) C dX1_cheapestAfter_2 ?_
  refine g_bipush (pc := 3) C dX1_cheapestAfter_3 ic_bipush_12 ?_
  refine g_icmp_lt (pc := 5) (tgt := 10) C dX1_cheapestAfter_5 (by decide) ?_ ?_
  · refine g_aload_n (pc := 10) C dX1_cheapestAfter_10 rfl 0 rfl ?_
    refine g_iload_n (pc := 11) C dX1_cheapestAfter_11 rfl 1 rfl ?_
    refine g_iconst (pc := 12) C dX1_cheapestAfter_12 ic_iconst_1 ?_
    refine g_iadd (pc := 13) C dX1_cheapestAfter_13 ?_
    refine g_iload_n (pc := 14) C dX1_cheapestAfter_14 rfl 2 rfl ?_
    refine g_iload_n (pc := 15) C dX1_cheapestAfter_15 rfl 3 rfl ?_
    refine g_callR (pc := 16) C (g_runV (stk := []) C (c_X1_firstCheapest F (a0 + (1 : Int32)) a1 a2 M) rfl rfl rfl kd_43 rfl wC_X1_firstCheapest wI_X1_firstCheapest wV_X1_firstCheapest wi_X1 wm_X1_94 hy_X1_firstCheapest (by decide) (Nat.le_of_ble_eq_true rfl) dX1_cheapestAfter_16) (fun r1 => ?_)
    refine g_istore (pc := 19) (lv' := [(4, .int r1), (0, .ref (xad X 43)), (1, .int a0), (2, .int a1), (3, .int a2)]) C dX1_cheapestAfter_19 (by decide) rfl ?_
    refine g_iload (pc := 21) C dX1_cheapestAfter_21 0 rfl ?_
    refine g_iconst (pc := 23) C dX1_cheapestAfter_23 ic_iconst_m1 ?_
    refine g_icmp_ne (pc := 24) (tgt := 32) C dX1_cheapestAfter_24 (by decide) ?_ ?_
    · refine g_aload_n (pc := 32) C dX1_cheapestAfter_32 rfl 1 rfl ?_
      refine gf_X1_23 (pc := 33) (u := 73) C kd_43 rfl dX1_cheapestAfter_33 ?_
      refine g_iload_n (pc := 36) C dX1_cheapestAfter_36 rfl 2 rfl ?_
      refine g_iconst (pc := 37) C dX1_cheapestAfter_37 ic_iconst_1 ?_
      refine g_iadd (pc := 38) C dX1_cheapestAfter_38 ?_
      refine g_aaldh (pc := 39) C kd_73 dX1_cheapestAfter_39 (fun hb2 => ?_)
      refine g_iload (pc := 40) C dX1_cheapestAfter_40 0 rfl ?_
      refine g_iald (pc := 42) C (kg_73 hb2) dX1_cheapestAfter_42 ?_
      exact g_iret (pc := 43) C dX1_cheapestAfter_43 rfl rfl
    · refine g_ldc (pc := 27) C wk_X1_86 dX1_cheapestAfter_27 ?_
      refine g_goto (pc := 29) (tgt := 43) C dX1_cheapestAfter_29 (by decide) ?_
      exact g_iret (pc := 43) C dX1_cheapestAfter_43 rfl rfl
  · refine g_iconst (pc := 8) C dX1_cheapestAfter_8 ic_iconst_0 ?_
    exact g_iret (pc := 9) C dX1_cheapestAfter_9 rfl rfl

/-! X8_has -/
set_option maxRecDepth 100000 in
set_option maxHeartbeats 4000000 in
theorem c_X8_has (a0 : Int32) (a1 : Int32)  (M : gM) : gCt yX8_has cX8_has 2 (some .boolean) 0 0 (fun ad K V => [.int a0, .int a1]) rvR (rMR M) M (f_X8_has a0 a1 M) := by
  refine g_met (y := yX8_has) (by decide +kernel) (fun _ _ _ => Nat.le_of_ble_eq_true rfl) (fun X C => ?_)
  show G X (gQm X rvR (rMR M)) 2 M [(0, .int a0), (1, .int a1)] [] 0 (f_X8_has a0 a1 M)
  unfold f_X8_has
  refine g_iload_n (pc := 0) C dX8_has_0 rfl 0 rfl ?_
  refine g_iload_n (pc := 1) C dX8_has_1 rfl 1 rfl ?_
  refine g_ishr (pc := 2) C dX8_has_2 ?_
  refine g_iconst (pc := 3) C dX8_has_3 ic_iconst_1 ?_
  refine g_iand (pc := 4) C dX8_has_4 ?_
  refine g_if_eq (pc := 5) (tgt := 12) C dX8_has_5 (by decide) ?_ ?_
  · refine g_iconst (pc := 12) C dX8_has_12 ic_iconst_0 ?_
    exact g_zretk (pc := 13) C rfl dX8_has_13 rfl rfl
  · refine g_iconst (pc := 8) C dX8_has_8 ic_iconst_1 ?_
    refine g_goto (pc := 9) (tgt := 13) C dX8_has_9 (by decide) ?_
    exact g_zretk (pc := 13) C rfl dX8_has_13 rfl rfl

/-! X8_sumOver -/
set_option maxRecDepth 100000 in
set_option maxHeartbeats 4000000 in
theorem g_X8_sumOver_h4_b {X : gX} (C : gC X cX8_sumOver RX8 4 (some .int) 1 21) (F : Nat) (a0 : Int32) (a1 : Nat) (na1 : Nat) (M : gM) (ha1 : kd a1 = gKi na1) (k4 : Int32 → Int32 → Option Int32) (hk4 : ∀ (x2 : Int32) (x3 : Int32), G X (gQm X rvR (rMR M)) 4 M [(0, .int a0), (1, .ref (xad X a1)), (2, .int x2), (3, .int x3)] [] 4 (k4 x2 x3)) (x2 : Int32) (x3 : Int32) : G X (gQm X rvR (rMR M)) 4 M [(0, .int a0), (1, .ref (xad X a1)), (2, .int x2), (3, .int x3)] [] 4 (f_X8_sumOver_h4_b F a0 a1 na1 M k4 x2 x3) := by
  unfold f_X8_sumOver_h4_b
  refine g_iload_n (pc := 4) C dX8_sumOver_4 rfl 3 rfl ?_
  refine g_aload_n (pc := 5) C dX8_sumOver_5 rfl 1 rfl ?_
  refine g_alen (pc := 6) C ha1 rfl dX8_sumOver_6 ?_
  refine g_icmp_ge (pc := 7) (tgt := 30) C dX8_sumOver_7 (by decide) ?_ ?_
  · refine g_iload_n (pc := 30) C dX8_sumOver_30 rfl 2 rfl ?_
    exact g_iret (pc := 31) C dX8_sumOver_31 rfl rfl
  · refine g_iload_n (pc := 10) C dX8_sumOver_10 rfl 0 rfl ?_
    refine g_iload_n (pc := 11) C dX8_sumOver_11 rfl 3 rfl ?_
    refine g_callR (pc := 12) C (g_runS (stk := []) C (c_X8_has a0 x3 M) rfl rfl rfl wC_X8_has wS_X8_has wi_X8 wm_X8_291 hy_X8_has (by decide) (Nat.le_of_ble_eq_true rfl) dX8_sumOver_12) (fun r1 => ?_)
    refine g_if_eq (pc := 15) (tgt := 24) C dX8_sumOver_15 (by decide) ?_ ?_
    · refine g_iinc (pc := 24) (j := 3) (lv' := [(3, .int (x3 + (1 : Int32))), (0, .int a0), (1, .ref (xad X a1)), (2, .int x2)]) C dX8_sumOver_24 rfl (ii_1 _) (by decide) rfl ?_
      refine g_goto (pc := 27) (tgt := 4) C dX8_sumOver_27 (by decide) ?_
      refine g_sub (lv' := [(0, .int a0), (1, .ref (xad X a1)), (2, .int x2), (3, .int (x3 + (1 : Int32)))]) [1, 2, 3, 0] rfl ?_
      exact hk4 x2 (x3 + (1 : Int32))
    · refine g_iload_n (pc := 18) C dX8_sumOver_18 rfl 2 rfl ?_
      refine g_aload_n (pc := 19) C dX8_sumOver_19 rfl 1 rfl ?_
      refine g_iload_n (pc := 20) C dX8_sumOver_20 rfl 3 rfl ?_
      refine g_iald (pc := 21) C ha1 dX8_sumOver_21 ?_
      refine g_iadd (pc := 22) C dX8_sumOver_22 ?_
      refine g_lt (fun v2 => ?_)
      refine g_istore_n (pc := 23) (lv' := [(2, .int v2), (0, .int a0), (1, .ref (xad X a1)), (3, .int x3)]) C dX8_sumOver_23 rfl (by decide) rfl ?_
      refine g_iinc (pc := 24) (j := 3) (lv' := [(3, .int (x3 + (1 : Int32))), (2, .int v2), (0, .int a0), (1, .ref (xad X a1))]) C dX8_sumOver_24 rfl (ii_1 _) (by decide) rfl ?_
      refine g_goto (pc := 27) (tgt := 4) C dX8_sumOver_27 (by decide) ?_
      refine g_sub (lv' := [(0, .int a0), (1, .ref (xad X a1)), (2, .int v2), (3, .int (x3 + (1 : Int32)))]) [2, 3, 1, 0] rfl ?_
      exact hk4 v2 (x3 + (1 : Int32))

theorem g_X8_sumOver_h4 {X : gX} (C : gC X cX8_sumOver RX8 4 (some .int) 1 21) (F : Nat) (a0 : Int32) (a1 : Nat) (na1 : Nat) (M : gM) (ha1 : kd a1 = gKi na1) : ∀ (n : Nat) (x2 : Int32) (x3 : Int32), G X (gQm X rvR (rMR M)) 4 M [(0, .int a0), (1, .ref (xad X a1)), (2, .int x2), (3, .int x3)] [] 4 (f_X8_sumOver_h4 F a0 a1 na1 M n x2 x3) := by
  intro n
  induction n with
  | zero =>
    intro x2 x3 r hr
    have hr2 : (none : Option Int32) = some r := hr
    cases hr2
  | succ n ih =>
    intro x2 x3
    exact g_X8_sumOver_h4_b C F a0 a1 na1 M ha1 _ ih x2 x3
set_option maxRecDepth 100000 in
set_option maxHeartbeats 4000000 in
theorem c_X8_sumOver (F : Nat) (a0 : Int32) (a1 : Nat) (na1 : Nat) (ha1 : kd a1 = gKi na1) (M : gM) : gCt yX8_sumOver cX8_sumOver 4 (some .int) 1 21 (fun ad K V => [.int a0, .ref (ad a1)]) rvR (rMR M) M (f_X8_sumOver F a0 a1 na1 M) := by
  refine g_met (y := yX8_sumOver) (by decide +kernel) (fun _ _ _ => Nat.le_of_ble_eq_true rfl) (fun X C => ?_)
  show G X (gQm X rvR (rMR M)) 4 M [(0, .int a0), (1, .ref (xad X a1))] [] 0 (f_X8_sumOver F a0 a1 na1 M)
  unfold f_X8_sumOver
  refine g_iconst (pc := 0) C dX8_sumOver_0 ic_iconst_0 ?_
  refine g_istore_n (pc := 1) (lv' := [(2, .int (0 : Int32)), (0, .int a0), (1, .ref (xad X a1))]) C dX8_sumOver_1 rfl (by decide) rfl ?_
  refine g_iconst (pc := 2) C dX8_sumOver_2 ic_iconst_0 ?_
  refine g_istore_n (pc := 3) (lv' := [(3, .int (0 : Int32)), (2, .int (0 : Int32)), (0, .int a0), (1, .ref (xad X a1))]) C dX8_sumOver_3 rfl (by decide) rfl ?_
  refine g_sub (lv' := [(0, .int a0), (1, .ref (xad X a1)), (2, .int (0 : Int32)), (3, .int (0 : Int32))]) [2, 3, 1, 0] rfl ?_
  exact g_X8_sumOver_h4 C F a0 a1 na1 M ha1 F (0 : Int32) (0 : Int32)

/-! X1_giveLooks -/
set_option maxRecDepth 100000 in
set_option maxHeartbeats 4000000 in
theorem g_X1_giveLooks_h13_b {X : gX} (C : gC X cX1_giveLooks RX1 5 none 0 0) (F : Nat) (a0 : Int32) (a1 : Int32) (k13 : Int32 → Int32 → gM → Option gM) (hk13 : ∀ (x3 : Int32) (x4 : Int32) (M : gM), G X (gQm X rvV rMV) 5 M [(0, .ref (xad X 43)), (1, .int a0), (3, .int x3), (4, .int x4)] [] 13 (k13 x3 x4 M)) (x3 : Int32) (x4 : Int32) (M : gM) : G X (gQm X rvV rMV) 5 M [(0, .ref (xad X 43)), (1, .int a0), (3, .int x3), (4, .int x4)] [] 13 (f_X1_giveLooks_h13_b F a0 a1 k13 x3 x4 M) := by
  unfold f_X1_giveLooks_h13_b
  refine g_iload (pc := 13) C dX1_giveLooks_13 3 rfl ?_
  refine g_if_lt (pc := 15) (tgt := 54) C dX1_giveLooks_15 (by decide) ?_ ?_
  · exact g_vret (pc := 54) C dX1_giveLooks_54 rfl rfl
  · refine g_aload_n (pc := 18) C dX1_giveLooks_18 rfl 0 rfl ?_
    refine gf_X1_32 (pc := 19) (u := 3) C kd_43 rfl dX1_giveLooks_19 ?_
    refine gf_X1_50 (pc := 22) (u := 11) C kd_3 rfl dX1_giveLooks_22 ?_
    refine g_iload (pc := 25) C dX1_giveLooks_25 3 rfl ?_
    refine g_iald (pc := 27) C kd_11 dX1_giveLooks_27 ?_
    refine g_iload_n (pc := 28) C dX1_giveLooks_28 rfl 1 rfl ?_
    refine g_icmp_ne (pc := 29) (tgt := 48) C dX1_giveLooks_29 (by decide) ?_ ?_
    · refine g_iinc (pc := 48) (j := 3) (lv' := [(4, .int (x4 + (-1 : Int32))), (0, .ref (xad X 43)), (1, .int a0), (3, .int x3)]) C dX1_giveLooks_48 rfl (ii_m1 _) (by decide) rfl ?_
      refine g_goto (pc := 51) (tgt := 13) C dX1_giveLooks_51 (by decide) ?_
      refine g_sub (lv' := [(0, .ref (xad X 43)), (1, .int a0), (3, .int x3), (4, .int (x4 + (-1 : Int32)))]) [1, 2, 3, 0] rfl ?_
      exact hk13 x3 (x4 + (-1 : Int32)) M
    · refine g_aload_n (pc := 32) C dX1_giveLooks_32 rfl 0 rfl ?_
      refine gf_X1_29 (pc := 33) (u := 87) C kd_43 rfl dX1_giveLooks_33 ?_
      refine g_iload (pc := 36) C dX1_giveLooks_36 3 rfl ?_
      refine g_iload_n (pc := 38) C dX1_giveLooks_38 rfl 2 rfl ?_
      refine g_bipush (pc := 39) C dX1_giveLooks_39 ic_bipush_64 ?_
      refine g_iremk (pc := 41) C dX1_giveLooks_41 (by decide) ?_
      refine g_iast (pc := 42) C kd_87 dX1_giveLooks_42 ?_
      refine g_ltM (fun M2 => ?_)
      refine g_iload_n (pc := 43) C dX1_giveLooks_43 rfl 2 rfl ?_
      refine g_bipush (pc := 44) C dX1_giveLooks_44 ic_bipush_64 ?_
      refine g_idivk (pc := 46) C dX1_giveLooks_46 (by decide) ?_
      refine g_lt (fun v3 => ?_)
      refine g_istore_n (pc := 47) (lv' := [(3, .int v3), (0, .ref (xad X 43)), (1, .int a0), (4, .int x4)]) C dX1_giveLooks_47 rfl (by decide) rfl ?_
      refine g_iinc (pc := 48) (j := 3) (lv' := [(4, .int (x4 + (-1 : Int32))), (3, .int v3), (0, .ref (xad X 43)), (1, .int a0)]) C dX1_giveLooks_48 rfl (ii_m1 _) (by decide) rfl ?_
      refine g_goto (pc := 51) (tgt := 13) C dX1_giveLooks_51 (by decide) ?_
      refine g_sub (lv' := [(0, .ref (xad X 43)), (1, .int a0), (3, .int v3), (4, .int (x4 + (-1 : Int32)))]) [2, 3, 1, 0] rfl ?_
      exact hk13 v3 (x4 + (-1 : Int32)) M2

theorem g_X1_giveLooks_h13 {X : gX} (C : gC X cX1_giveLooks RX1 5 none 0 0) (F : Nat) (a0 : Int32) (a1 : Int32) : ∀ (n : Nat) (x3 : Int32) (x4 : Int32) (M : gM), G X (gQm X rvV rMV) 5 M [(0, .ref (xad X 43)), (1, .int a0), (3, .int x3), (4, .int x4)] [] 13 (f_X1_giveLooks_h13 F a0 a1 n x3 x4 M) := by
  intro n
  induction n with
  | zero =>
    intro x3 x4 M r hr
    have hr2 : (none : Option gM) = some r := hr
    cases hr2
  | succ n ih =>
    intro x3 x4 M
    exact g_X1_giveLooks_h13_b C F a0 a1 _ ih x3 x4 M
set_option maxRecDepth 100000 in
set_option maxHeartbeats 4000000 in
theorem c_X1_giveLooks (F : Nat) (a0 : Int32) (a1 : Int32)  (M : gM) : gCt yX1_giveLooks cX1_giveLooks 5 none 0 0 (fun ad K V => [.ref (ad 43), .int a0, .int a1]) rvV rMV M (f_X1_giveLooks F a0 a1 M) := by
  refine g_met (y := yX1_giveLooks) (by decide +kernel) (fun _ _ _ => Nat.le_of_ble_eq_true rfl) (fun X C => ?_)
  show G X (gQm X rvV rMV) 5 M [(0, .ref (xad X 43)), (1, .int a0), (2, .int a1)] [] 0 (f_X1_giveLooks F a0 a1 M)
  unfold f_X1_giveLooks
  refine g_iload_n (pc := 0) C dX1_giveLooks_0 rfl 2 rfl ?_
  refine g_istore_n (pc := 1) (lv' := [(3, .int a1), (0, .ref (xad X 43)), (1, .int a0), (2, .int a1)]) C dX1_giveLooks_1 rfl (by decide) rfl ?_
  refine g_aload_n (pc := 2) C dX1_giveLooks_2 rfl 1 rfl ?_
  refine gf_X1_32 (pc := 3) (u := 3) C kd_43 rfl dX1_giveLooks_3 ?_
  refine gf_X1_44 (pc := 6) C kd_3 dX1_giveLooks_6 ?_
  refine g_iconst (pc := 9) C dX1_giveLooks_9 ic_iconst_1 ?_
  refine g_isub (pc := 10) C dX1_giveLooks_10 ?_
  refine g_lt (fun v1 => ?_)
  refine g_istore (pc := 11) (lv' := [(4, .int v1), (3, .int a1), (0, .ref (xad X 43)), (1, .int a0), (2, .int a1)]) C dX1_giveLooks_11 (by decide) rfl ?_
  refine g_sub (lv' := [(0, .ref (xad X 43)), (1, .int a0), (3, .int a1), (4, .int v1)]) [2, 3, 1, 0] rfl ?_
  exact g_X1_giveLooks_h13 C F a0 a1 F a1 v1 M

