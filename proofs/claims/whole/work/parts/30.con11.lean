/-! X9_seenBy -/
set_option maxRecDepth 100000 in
set_option maxHeartbeats 4000000 in
theorem g_X9_seenBy_h8_b {X : gX} (C : gC X cX9_seenBy RX9 6 (some .int) 2 49) (F : Nat) (a0 : Int32) (a1 : Int32) (M : gM) (k8 : Int32 → Int32 → Int32 → Option Int32) (hk8 : ∀ (x3 : Int32) (x4 : Int32) (x5 : Int32), G X (gQm X rvR (rMR M)) 6 M [(0, .ref (xad X 95)), (1, .int a0), (2, .int a1), (3, .int x3), (4, .int x4), (5, .int x5)] [] 8 (k8 x3 x4 x5)) (x3 : Int32) (x4 : Int32) (x5 : Int32) : G X (gQm X rvR (rMR M)) 6 M [(0, .ref (xad X 95)), (1, .int a0), (2, .int a1), (3, .int x3), (4, .int x4), (5, .int x5)] [] 8 (f_X9_seenBy_h8_b F a0 a1 M k8 x3 x4 x5) := by
  unfold f_X9_seenBy_h8_b
  refine g_iload (pc := 8) C dX9_seenBy_8 5 rfl ?_
  refine g_aload_n (pc := 10) C dX9_seenBy_10 rfl 0 rfl ?_
  refine gf_X9_165 (pc := 11) C kd_95 dX9_seenBy_11 ?_
  refine g_icmp_ge (pc := 14) (tgt := 86) C dX9_seenBy_14 (by decide) ?_ ?_
  · refine g_iload_n (pc := 86) C dX9_seenBy_86 rfl 3 rfl ?_
    refine g_if_eq (pc := 87) (tgt := 94) C dX9_seenBy_87 (by decide) ?_ ?_
    · refine g_iload_n (pc := 94) C dX9_seenBy_94 rfl 3 rfl ?_
      refine g_goto (pc := 95) (tgt := 100) C dX9_seenBy_95 (by decide) ?_
      exact g_iret (pc := 100) C dX9_seenBy_100 rfl rfl
    · refine g_iload_n (pc := 90) C dX9_seenBy_90 rfl 2 rfl ?_
      refine g_if_ne (pc := 91) (tgt := 98) C dX9_seenBy_91 (by decide) ?_ ?_
      · refine g_iload (pc := 98) C dX9_seenBy_98 4 rfl ?_
        exact g_iret (pc := 100) C dX9_seenBy_100 rfl rfl
      · refine g_iload_n (pc := 94) C dX9_seenBy_94 rfl 3 rfl ?_
        refine g_goto (pc := 95) (tgt := 100) C dX9_seenBy_95 (by decide) ?_
        exact g_iret (pc := 100) C dX9_seenBy_100 rfl rfl
  · refine g_aload_n (pc := 17) C dX9_seenBy_17 rfl 0 rfl ?_
    refine g_iconst (pc := 18) C dX9_seenBy_18 ic_iconst_0 ?_
    refine g_aload_n (pc := 19) C dX9_seenBy_19 rfl 0 rfl ?_
    refine gf_X9_57 (pc := 20) (u := 110) C kd_95 rfl dX9_seenBy_20 ?_
    refine g_iload (pc := 23) C dX9_seenBy_23 5 rfl ?_
    refine g_iald (pc := 25) C kd_110 dX9_seenBy_25 ?_
    refine g_callR (pc := 26) C (g_runV (stk := []) C (c_X9_sumOf F (0 : Int32) (M 110 x5.toNatClampNeg) M) rfl rfl rfl kd_95 rfl wC_X9_sumOf wI_X9_sumOf wV_X9_sumOf wi_X9 wm_X9_171 hy_X9_sumOf (by decide) (Nat.le_of_ble_eq_true rfl) dX9_seenBy_26) (fun r1 => ?_)
    refine g_aload_n (pc := 29) C dX9_seenBy_29 rfl 0 rfl ?_
    refine gf_X9_78 (pc := 30) (u := 117) C kd_95 rfl dX9_seenBy_30 ?_
    refine g_iload_n (pc := 33) C dX9_seenBy_33 rfl 1 rfl ?_
    refine g_iald (pc := 34) C kd_117 dX9_seenBy_34 ?_
    refine g_icmp_ne (pc := 35) (tgt := 80) C dX9_seenBy_35 (by decide) ?_ ?_
    · refine g_iinc (pc := 80) (j := 5) (lv' := [(5, .int (x5 + (1 : Int32))), (0, .ref (xad X 95)), (1, .int a0), (2, .int a1), (3, .int x3), (4, .int x4)]) C dX9_seenBy_80 rfl (ii_1 _) (by decide) rfl ?_
      refine g_goto (pc := 83) (tgt := 8) C dX9_seenBy_83 (by decide) ?_
      refine g_sub (lv' := [(0, .ref (xad X 95)), (1, .int a0), (2, .int a1), (3, .int x3), (4, .int x4), (5, .int (x5 + (1 : Int32)))]) [1, 2, 3, 4, 5, 0] rfl ?_
      exact hk8 x3 x4 (x5 + (1 : Int32))
    · refine g_aload_n (pc := 38) C dX9_seenBy_38 rfl 0 rfl ?_
      refine g_aload_n (pc := 39) C dX9_seenBy_39 rfl 0 rfl ?_
      refine gf_X9_57 (pc := 40) (u := 110) C kd_95 rfl dX9_seenBy_40 ?_
      refine g_iload (pc := 43) C dX9_seenBy_43 5 rfl ?_
      refine g_iald (pc := 45) C kd_110 dX9_seenBy_45 ?_
      refine g_aload_n (pc := 46) C dX9_seenBy_46 rfl 0 rfl ?_
      refine gf_X9_75 (pc := 47) (u := 116) C kd_95 rfl dX9_seenBy_47 ?_
      refine g_iload_n (pc := 50) C dX9_seenBy_50 rfl 1 rfl ?_
      refine g_iald (pc := 51) C kd_116 dX9_seenBy_51 ?_
      refine g_callR (pc := 52) C (g_runV (stk := []) C (c_X9_isFree F (M 110 x5.toNatClampNeg) (M 116 a0.toNatClampNeg) M) rfl rfl rfl kd_95 rfl wC_X9_isFree wI_X9_isFree wV_X9_isFree wi_X9 wm_X9_198 hy_X9_isFree (by decide) (Nat.le_of_ble_eq_true rfl) dX9_seenBy_52) (fun r2 => ?_)
      refine g_if_eq (pc := 55) (tgt := 80) C dX9_seenBy_55 (by decide) ?_ ?_
      · refine g_iinc (pc := 80) (j := 5) (lv' := [(5, .int (x5 + (1 : Int32))), (0, .ref (xad X 95)), (1, .int a0), (2, .int a1), (3, .int x3), (4, .int x4)]) C dX9_seenBy_80 rfl (ii_1 _) (by decide) rfl ?_
        refine g_goto (pc := 83) (tgt := 8) C dX9_seenBy_83 (by decide) ?_
        refine g_sub (lv' := [(0, .ref (xad X 95)), (1, .int a0), (2, .int a1), (3, .int x3), (4, .int x4), (5, .int (x5 + (1 : Int32)))]) [1, 2, 3, 4, 5, 0] rfl ?_
        exact hk8 x3 x4 (x5 + (1 : Int32))
      · refine g_iload_n (pc := 58) C dX9_seenBy_58 rfl 3 rfl ?_
        refine g_aload_n (pc := 59) C dX9_seenBy_59 rfl 0 rfl ?_
        refine gf_X9_57 (pc := 60) (u := 110) C kd_95 rfl dX9_seenBy_60 ?_
        refine g_iload (pc := 63) C dX9_seenBy_63 5 rfl ?_
        refine g_iald (pc := 65) C kd_110 dX9_seenBy_65 ?_
        refine g_ior (pc := 66) C dX9_seenBy_66 ?_
        refine g_lt (fun v3 => ?_)
        refine g_istore_n (pc := 67) (lv' := [(3, .int v3), (0, .ref (xad X 95)), (1, .int a0), (2, .int a1), (4, .int x4), (5, .int x5)]) C dX9_seenBy_67 rfl (by decide) rfl ?_
        refine g_iload (pc := 68) C dX9_seenBy_68 4 rfl ?_
        refine g_aload_n (pc := 70) C dX9_seenBy_70 rfl 1 rfl ?_
        refine gf_X9_57 (pc := 71) (u := 110) C kd_95 rfl dX9_seenBy_71 ?_
        refine g_iload (pc := 74) C dX9_seenBy_74 5 rfl ?_
        refine g_iald (pc := 76) C kd_110 dX9_seenBy_76 ?_
        refine g_iand (pc := 77) C dX9_seenBy_77 ?_
        refine g_lt (fun v4 => ?_)
        refine g_istore (pc := 78) (lv' := [(4, .int v4), (3, .int v3), (0, .ref (xad X 95)), (1, .int a0), (2, .int a1), (5, .int x5)]) C dX9_seenBy_78 (by decide) rfl ?_
        refine g_iinc (pc := 80) (j := 5) (lv' := [(5, .int (x5 + (1 : Int32))), (4, .int v4), (3, .int v3), (0, .ref (xad X 95)), (1, .int a0), (2, .int a1)]) C dX9_seenBy_80 rfl (ii_1 _) (by decide) rfl ?_
        refine g_goto (pc := 83) (tgt := 8) C dX9_seenBy_83 (by decide) ?_
        refine g_sub (lv' := [(0, .ref (xad X 95)), (1, .int a0), (2, .int a1), (3, .int v3), (4, .int v4), (5, .int (x5 + (1 : Int32)))]) [3, 4, 5, 2, 1, 0] rfl ?_
        exact hk8 v3 v4 (x5 + (1 : Int32))

theorem g_X9_seenBy_h8 {X : gX} (C : gC X cX9_seenBy RX9 6 (some .int) 2 49) (F : Nat) (a0 : Int32) (a1 : Int32) (M : gM) : ∀ (n : Nat) (x3 : Int32) (x4 : Int32) (x5 : Int32), G X (gQm X rvR (rMR M)) 6 M [(0, .ref (xad X 95)), (1, .int a0), (2, .int a1), (3, .int x3), (4, .int x4), (5, .int x5)] [] 8 (f_X9_seenBy_h8 F a0 a1 M n x3 x4 x5) := by
  intro n
  induction n with
  | zero =>
    intro x3 x4 x5 r hr
    have hr2 : (none : Option Int32) = some r := hr
    cases hr2
  | succ n ih =>
    intro x3 x4 x5
    exact g_X9_seenBy_h8_b C F a0 a1 M _ ih x3 x4 x5
set_option maxRecDepth 100000 in
set_option maxHeartbeats 4000000 in
theorem c_X9_seenBy (F : Nat) (a0 : Int32) (a1 : Int32)  (M : gM) : gCt yX9_seenBy cX9_seenBy 6 (some .int) 2 49 (fun ad K V => [.ref (ad 95), .int a0, .int a1]) rvR (rMR M) M (f_X9_seenBy F a0 a1 M) := by
  refine g_met (y := yX9_seenBy) (by decide +kernel) (fun _ _ _ => Nat.le_of_ble_eq_true rfl) (fun X C => ?_)
  show G X (gQm X rvR (rMR M)) 6 M [(0, .ref (xad X 95)), (1, .int a0), (2, .int a1)] [] 0 (f_X9_seenBy F a0 a1 M)
  unfold f_X9_seenBy
  refine g_iconst (pc := 0) C dX9_seenBy_0 ic_iconst_0 ?_
  refine g_istore_n (pc := 1) (lv' := [(3, .int (0 : Int32)), (0, .ref (xad X 95)), (1, .int a0), (2, .int a1)]) C dX9_seenBy_1 rfl (by decide) rfl ?_
  refine g_iconst (pc := 2) C dX9_seenBy_2 ic_iconst_m1 ?_
  refine g_istore (pc := 3) (lv' := [(4, .int (-1 : Int32)), (3, .int (0 : Int32)), (0, .ref (xad X 95)), (1, .int a0), (2, .int a1)]) C dX9_seenBy_3 (by decide) rfl ?_
  refine g_iconst (pc := 5) C dX9_seenBy_5 ic_iconst_0 ?_
  refine g_istore (pc := 6) (lv' := [(5, .int (0 : Int32)), (4, .int (-1 : Int32)), (3, .int (0 : Int32)), (0, .ref (xad X 95)), (1, .int a0), (2, .int a1)]) C dX9_seenBy_6 (by decide) rfl ?_
  refine g_sub (lv' := [(0, .ref (xad X 95)), (1, .int a0), (2, .int a1), (3, .int (0 : Int32)), (4, .int (-1 : Int32)), (5, .int (0 : Int32))]) [3, 4, 5, 2, 1, 0] rfl ?_
  exact g_X9_seenBy_h8 C F a0 a1 M F (0 : Int32) (-1 : Int32) (0 : Int32)

/-! X9_seen -/
set_option maxRecDepth 100000 in
set_option maxHeartbeats 4000000 in
theorem c_X9_seen (F : Nat) (a0 : Int32) (a1 : Int32)  (M : gM) : gCt yX9_seen cX9_seen 3 (some .int) 3 74 (fun ad K V => [.ref (ad 95), .int a0, .int a1]) rvR (rMR M) M (f_X9_seen F a0 a1 M) := by
  refine g_met (y := yX9_seen) (by decide +kernel) (fun _ _ _ => Nat.le_of_ble_eq_true rfl) (fun X C => ?_)
  show G X (gQm X rvR (rMR M)) 3 M [(0, .ref (xad X 95)), (1, .int a0), (2, .int a1)] [] 0 (f_X9_seen F a0 a1 M)
  unfold f_X9_seen
  refine g_iload_n (pc := 0) C dX9_seen_0 rfl 2 rfl ?_
  refine g_i2l (pc := 1) C dX9_seen_1 ?_
  refine g_lconst (pc := 2) (v := 0) C dX9_seen_2 rfl ?_
  refine g_lconst (pc := 3) (v := 1) C dX9_seen_3 rfl ?_
  refine g_callR (pc := 4) C (g_runS (stk := []) C (c_X9_in a1.toInt64 (0 : Int64) (1 : Int64) M) rfl rfl rfl wC_X9_in wS_X9_in wi_X9 wm_X9_89 hy_X9_in (by decide) (Nat.le_of_ble_eq_true rfl) dX9_seen_4) (fun r1 => ?_)
  refine g_if_ne (pc := 7) (tgt := 13) C dX9_seen_7 (by decide) ?_ ?_
  · refine g_iload_n (pc := 13) C dX9_seen_13 rfl 1 rfl ?_
    refine g_i2l (pc := 14) C dX9_seen_14 ?_
    refine g_lconst (pc := 15) (v := 0) C dX9_seen_15 rfl ?_
    refine g_aload_n (pc := 16) C dX9_seen_16 rfl 0 rfl ?_
    refine gf_X9_156 (pc := 17) C kd_95 dX9_seen_17 ?_
    refine g_iconst (pc := 20) C dX9_seen_20 ic_iconst_1 ?_
    refine g_isub (pc := 21) C dX9_seen_21 ?_
    refine g_i2l (pc := 22) C dX9_seen_22 ?_
    refine g_callR (pc := 23) C (g_runS (stk := []) C (c_X9_in a0.toInt64 (0 : Int64) (((M 95 30) - (1 : Int32)).toInt64) M) rfl rfl rfl wC_X9_in wS_X9_in wi_X9 wm_X9_89 hy_X9_in (by decide) (Nat.le_of_ble_eq_true rfl) dX9_seen_23) (fun r2 => ?_)
    refine g_if_eq (pc := 26) (tgt := 38) C dX9_seen_26 (by decide) ?_ ?_
    · refine g_iconst (pc := 38) C dX9_seen_38 ic_iconst_m1 ?_
      exact g_iret (pc := 39) C dX9_seen_39 rfl rfl
    · refine g_aload_n (pc := 29) C dX9_seen_29 rfl 0 rfl ?_
      refine g_iload_n (pc := 30) C dX9_seen_30 rfl 1 rfl ?_
      refine g_iload_n (pc := 31) C dX9_seen_31 rfl 2 rfl ?_
      refine g_callR (pc := 32) C (g_runV (stk := []) C (c_X9_seenBy F a0 a1 M) rfl rfl rfl kd_95 rfl wC_X9_seenBy wI_X9_seenBy wV_X9_seenBy wi_X9 wm_X9_255 hy_X9_seenBy (by decide) (Nat.le_of_ble_eq_true rfl) dX9_seen_32) (fun r3 => ?_)
      refine g_goto (pc := 35) (tgt := 39) C dX9_seen_35 (by decide) ?_
      exact g_iret (pc := 39) C dX9_seen_39 rfl rfl
  · refine g_ldc (pc := 10) C wk_X9_93 dX9_seen_10 ?_
    exact g_iret (pc := 12) C dX9_seen_12 rfl rfl

/-! X9_strange -/
set_option maxRecDepth 100000 in
set_option maxHeartbeats 4000000 in
theorem g_X9_strange_h2_b {X : gX} (C : gC X cX9_strange RX9 2 (some .int) 3 74) (F : Nat) (M : gM) (k2 : Int32 → Option Int32) (hk2 : ∀ (x1 : Int32), G X (gQm X rvR (rMR M)) 2 M [(0, .ref (xad X 95)), (1, .int x1)] [] 2 (k2 x1)) (x1 : Int32) : G X (gQm X rvR (rMR M)) 2 M [(0, .ref (xad X 95)), (1, .int x1)] [] 2 (f_X9_strange_h2_b F M k2 x1) := by
  unfold f_X9_strange_h2_b
  refine g_iload_n (pc := 2) C dX9_strange_2 rfl 1 rfl ?_
  refine g_aload_n (pc := 3) C dX9_strange_3 rfl 0 rfl ?_
  refine gf_X9_156 (pc := 4) C kd_95 dX9_strange_4 ?_
  refine g_icmp_ge (pc := 7) (tgt := 27) C dX9_strange_7 (by decide) ?_ ?_
  · refine g_iconst (pc := 27) C dX9_strange_27 ic_iconst_m1 ?_
    exact g_iret (pc := 28) C dX9_strange_28 rfl rfl
  · refine g_aload_n (pc := 10) C dX9_strange_10 rfl 0 rfl ?_
    refine g_iload_n (pc := 11) C dX9_strange_11 rfl 1 rfl ?_
    refine g_iconst (pc := 12) C dX9_strange_12 ic_iconst_0 ?_
    refine g_callR (pc := 13) C (g_runV (stk := []) C (c_X9_seenBy F x1 (0 : Int32) M) rfl rfl rfl kd_95 rfl wC_X9_seenBy wI_X9_seenBy wV_X9_seenBy wi_X9 wm_X9_255 hy_X9_seenBy (by decide) (Nat.le_of_ble_eq_true rfl) dX9_strange_13) (fun r1 => ?_)
    refine g_if_ne (pc := 16) (tgt := 21) C dX9_strange_16 (by decide) ?_ ?_
    · refine g_iinc (pc := 21) (j := 1) (lv' := [(1, .int (x1 + (1 : Int32))), (0, .ref (xad X 95))]) C dX9_strange_21 rfl (ii_1 _) (by decide) rfl ?_
      refine g_goto (pc := 24) (tgt := 2) C dX9_strange_24 (by decide) ?_
      refine g_sub (lv' := [(0, .ref (xad X 95)), (1, .int (x1 + (1 : Int32)))]) [1, 0] rfl ?_
      exact hk2 (x1 + (1 : Int32))
    · refine g_iload_n (pc := 19) C dX9_strange_19 rfl 1 rfl ?_
      exact g_iret (pc := 20) C dX9_strange_20 rfl rfl

theorem g_X9_strange_h2 {X : gX} (C : gC X cX9_strange RX9 2 (some .int) 3 74) (F : Nat) (M : gM) : ∀ (n : Nat) (x1 : Int32), G X (gQm X rvR (rMR M)) 2 M [(0, .ref (xad X 95)), (1, .int x1)] [] 2 (f_X9_strange_h2 F M n x1) := by
  intro n
  induction n with
  | zero =>
    intro x1 r hr
    have hr2 : (none : Option Int32) = some r := hr
    cases hr2
  | succ n ih =>
    intro x1
    exact g_X9_strange_h2_b C F M _ ih x1
set_option maxRecDepth 100000 in
set_option maxHeartbeats 4000000 in
theorem c_X9_strange (F : Nat)  (M : gM) : gCt yX9_strange cX9_strange 2 (some .int) 3 74 (fun ad K V => [.ref (ad 95)]) rvR (rMR M) M (f_X9_strange F M) := by
  refine g_met (y := yX9_strange) (by decide +kernel) (fun _ _ _ => Nat.le_of_ble_eq_true rfl) (fun X C => ?_)
  show G X (gQm X rvR (rMR M)) 2 M [(0, .ref (xad X 95))] [] 0 (f_X9_strange F M)
  unfold f_X9_strange
  refine g_iconst (pc := 0) C dX9_strange_0 ic_iconst_0 ?_
  refine g_istore_n (pc := 1) (lv' := [(1, .int (0 : Int32)), (0, .ref (xad X 95))]) C dX9_strange_1 rfl (by decide) rfl ?_
  refine g_sub (lv' := [(0, .ref (xad X 95)), (1, .int (0 : Int32))]) [1, 0] rfl ?_
  exact g_X9_strange_h2 C F M F (0 : Int32)

/-! X9_want -/
set_option maxRecDepth 100000 in
set_option maxHeartbeats 4000000 in
theorem g_X9_want_b21 {X : gX} (C : gC X cX9_want RX9 4 (some .boolean) 0 0) (a0 : Int32) (a1 : Int32) (a2 : Int32) (M : gM) : G X (gQm X rvW rMW) 4 M [(0, .ref (xad X 95))] [] 21 (f_X9_want_b21 a0 a1 a2 M) := by
  unfold f_X9_want_b21
  refine g_aload_n (pc := 21) C dX9_want_21 rfl 0 rfl ?_
  refine gf_X9_103 (pc := 22) C kd_95 dX9_want_22 ?_
  refine g_if_ne (pc := 25) (tgt := 32) C dX9_want_25 (by decide) ?_ ?_
  · refine g_iconst (pc := 32) C dX9_want_32 ic_iconst_0 ?_
    exact g_zretk (pc := 33) C rfl dX9_want_33 rfl rfl
  · refine g_iconst (pc := 28) C dX9_want_28 ic_iconst_1 ?_
    refine g_goto (pc := 29) (tgt := 33) C dX9_want_29 (by decide) ?_
    exact g_zretk (pc := 33) C rfl dX9_want_33 rfl rfl

set_option maxRecDepth 100000 in
set_option maxHeartbeats 4000000 in
theorem c_X9_want (a0 : Int32) (a1 : Int32) (a2 : Int32)  (M : gM) : gCt yX9_want cX9_want 4 (some .boolean) 0 0 (fun ad K V => [.ref (ad 95), .int a0, .int a1, .int a2]) rvW rMW M (f_X9_want a0 a1 a2 M) := by
  refine g_met (y := yX9_want) (by decide +kernel) (fun _ _ _ => Nat.le_of_ble_eq_true rfl) (fun X C => ?_)
  show G X (gQm X rvW rMW) 4 M [(0, .ref (xad X 95)), (1, .int a0), (2, .int a1), (3, .int a2)] [] 0 (f_X9_want a0 a1 a2 M)
  unfold f_X9_want
  refine g_iload_n (pc := 0) C dX9_want_0 rfl 1 rfl ?_
  refine g_if_ne (pc := 1) (tgt := 21) C dX9_want_1 (by decide) ?_ ?_
  · refine g_sub (lv' := [(0, .ref (xad X 95))]) [0] rfl ?_
    exact g_X9_want_b21 C a0 a1 a2 M
  · refine g_aload_n (pc := 4) C dX9_want_4 rfl 0 rfl ?_
    refine gf_X9_103 (pc := 5) C kd_95 dX9_want_5 ?_
    refine g_if_ne (pc := 8) (tgt := 21) C dX9_want_8 (by decide) ?_ ?_
    · refine g_sub (lv' := [(0, .ref (xad X 95))]) [0] rfl ?_
      exact g_X9_want_b21 C a0 a1 a2 M
    · refine g_aload_n (pc := 11) C dX9_want_11 rfl 0 rfl ?_
      refine g_iload_n (pc := 12) C dX9_want_12 rfl 2 rfl ?_
      refine gp_X9_103 (pc := 13) C kd_95 dX9_want_13 ?_
      refine g_ltM (fun M1 => ?_)
      refine g_aload_n (pc := 16) C dX9_want_16 rfl 0 rfl ?_
      refine g_iload_n (pc := 17) C dX9_want_17 rfl 3 rfl ?_
      refine gp_X9_53 (pc := 18) C kd_95 dX9_want_18 ?_
      refine g_ltM (fun M2 => ?_)
      refine g_sub (lv' := [(0, .ref (xad X 95))]) [0] rfl ?_
      exact g_X9_want_b21 C a0 a1 a2 M2

/-! X9_takeNumber -/
set_option maxRecDepth 100000 in
set_option maxHeartbeats 4000000 in
theorem g_X9_takeNumber_b160 {X : gX} (C : gC X cX9_takeNumber RX9 6 (some .int) 1 25) (F : Nat) (a0 : Int32) (a1 : Int32) (x4 : Int32) (s0 : Int32) (M : gM) : G X (gQm X rvW rMW) 6 M [(0, .ref (xad X 95)), (4, .int x4)] [.int s0, .ref (xad X 95)] 160 (f_X9_takeNumber_b160 F a0 a1 x4 s0 M) := by
  unfold f_X9_takeNumber_b160
  refine g_iconst (pc := 160) C dX9_takeNumber_160 ic_iconst_2 ?_
  refine g_aload_n (pc := 161) C dX9_takeNumber_161 rfl 0 rfl ?_
  refine gf_X9_110 (pc := 162) C kd_95 dX9_takeNumber_162 ?_
  refine g_callW (pc := 165) C (g_runV (stk := []) C (c_X9_want s0 (2 : Int32) (M 95 16) M) rfl rfl rfl kd_95 rfl wC_X9_want wI_X9_want wV_X9_want wi_X9 wm_X9_124 hy_X9_want (by decide) (Nat.le_of_ble_eq_true rfl) dX9_takeNumber_165) (fun r6 => ?_)
  refine g_lt (fun v7 => ?_)
  refine g_istore (pc := 168) (lv' := [(5, .int v7), (0, .ref (xad X 95)), (4, .int x4)]) C dX9_takeNumber_168 (by decide) rfl ?_
  refine g_iload (pc := 170) C dX9_takeNumber_170 2 rfl ?_
  exact g_iret (pc := 172) C dX9_takeNumber_172 rfl rfl

set_option maxRecDepth 100000 in
set_option maxHeartbeats 4000000 in
theorem g_X9_takeNumber_b159 {X : gX} (C : gC X cX9_takeNumber RX9 6 (some .int) 1 25) (F : Nat) (a0 : Int32) (a1 : Int32) (x4 : Int32) (M : gM) : G X (gQm X rvW rMW) 6 M [(0, .ref (xad X 95)), (4, .int x4)] [.ref (xad X 95)] 159 (f_X9_takeNumber_b159 F a0 a1 x4 M) := by
  unfold f_X9_takeNumber_b159
  refine g_iconst (pc := 159) C dX9_takeNumber_159 ic_iconst_0 ?_
  exact g_X9_takeNumber_b160 C F a0 a1 x4 (0 : Int32) M

set_option maxRecDepth 100000 in
set_option maxHeartbeats 4000000 in
theorem g_X9_takeNumber_b128 {X : gX} (C : gC X cX9_takeNumber RX9 6 (some .int) 1 25) (F : Nat) (a0 : Int32) (a1 : Int32) (x4 : Int32) (M : gM) : G X (gQm X rvW rMW) 6 M [(0, .ref (xad X 95)), (1, .int a0), (2, .int a1), (4, .int x4)] [] 128 (f_X9_takeNumber_b128 F a0 a1 x4 M) := by
  unfold f_X9_takeNumber_b128
  refine g_aload_n (pc := 128) C dX9_takeNumber_128 rfl 0 rfl ?_
  refine g_aload_n (pc := 129) C dX9_takeNumber_129 rfl 0 rfl ?_
  refine gf_X9_100 (pc := 130) C kd_95 dX9_takeNumber_130 ?_
  refine g_aload_n (pc := 133) C dX9_takeNumber_133 rfl 0 rfl ?_
  refine gf_X9_110 (pc := 134) C kd_95 dX9_takeNumber_134 ?_
  refine g_isub (pc := 137) C dX9_takeNumber_137 ?_
  refine g_iconst (pc := 138) C dX9_takeNumber_138 ic_iconst_4 ?_
  refine g_icmp_ge (pc := 139) (tgt := 159) C dX9_takeNumber_139 (by decide) ?_ ?_
  · refine g_sub (lv' := [(0, .ref (xad X 95)), (4, .int x4)]) [0, 3] rfl ?_
    exact g_X9_takeNumber_b159 C F a0 a1 x4 M
  · refine g_iload (pc := 142) C dX9_takeNumber_142 3 rfl ?_
    refine g_i2l (pc := 144) C dX9_takeNumber_144 ?_
    refine g_iload_n (pc := 145) C dX9_takeNumber_145 rfl 1 rfl ?_
    refine g_i2l (pc := 146) C dX9_takeNumber_146 ?_
    refine g_iload_n (pc := 147) C dX9_takeNumber_147 rfl 2 rfl ?_
    refine g_i2l (pc := 148) C dX9_takeNumber_148 ?_
    refine g_callR (pc := 149) C (g_runS (stk := [.ref (xad X 95)]) C (c_X9_in x4.toInt64 a0.toInt64 a1.toInt64 M) rfl rfl rfl wC_X9_in wS_X9_in wi_X9 wm_X9_89 hy_X9_in (by decide) (Nat.le_of_ble_eq_true rfl) dX9_takeNumber_149) (fun r8 => ?_)
    refine g_if_eq (pc := 152) (tgt := 159) C dX9_takeNumber_152 (by decide) ?_ ?_
    · refine g_sub (lv' := [(0, .ref (xad X 95)), (4, .int x4)]) [0, 3] rfl ?_
      exact g_X9_takeNumber_b159 C F a0 a1 x4 M
    · refine g_iconst (pc := 155) C dX9_takeNumber_155 ic_iconst_1 ?_
      refine g_goto (pc := 156) (tgt := 160) C dX9_takeNumber_156 (by decide) ?_
      refine g_sub (lv' := [(0, .ref (xad X 95)), (4, .int x4)]) [0, 3] rfl ?_
      exact g_X9_takeNumber_b160 C F a0 a1 x4 (1 : Int32) M

set_option maxRecDepth 100000 in
set_option maxHeartbeats 4000000 in
theorem g_X9_takeNumber_b113 {X : gX} (C : gC X cX9_takeNumber RX9 6 (some .int) 1 25) (F : Nat) (a0 : Int32) (a1 : Int32) (k50 : Int32 → gM → Option (Int32 × gM)) (hk50 : ∀ (x4 : Int32) (M : gM), G X (gQm X rvW rMW) 6 M [(0, .ref (xad X 95)), (1, .int a0), (2, .int a1), (4, .int x4)] [] 50 (k50 x4 M)) (s0 : Int32) (M : gM) : G X (gQm X rvW rMW) 6 M [(0, .ref (xad X 95)), (1, .int a0), (2, .int a1)] [.int s0] 113 (f_X9_takeNumber_b113 F a0 a1 k50 s0 M) := by
  unfold f_X9_takeNumber_b113
  refine g_istore (pc := 113) (lv' := [(4, .int s0), (0, .ref (xad X 95)), (1, .int a0), (2, .int a1)]) C dX9_takeNumber_113 (by decide) rfl ?_
  refine g_aload_n (pc := 115) C dX9_takeNumber_115 rfl 1 rfl ?_
  refine g_dup (pc := 116) C dX9_takeNumber_116 rfl ?_
  refine gf_X9_100 (pc := 117) C kd_95 dX9_takeNumber_117 ?_
  refine g_iconst (pc := 120) C dX9_takeNumber_120 ic_iconst_1 ?_
  refine g_iadd (pc := 121) C dX9_takeNumber_121 ?_
  refine gp_X9_100 (pc := 122) C kd_95 dX9_takeNumber_122 ?_
  refine g_ltM (fun M10 => ?_)
  refine g_goto (pc := 125) (tgt := 50) C dX9_takeNumber_125 (by decide) ?_
  refine g_sub (lv' := [(0, .ref (xad X 95)), (1, .int a0), (2, .int a1), (4, .int s0)]) [1, 2, 3, 0] rfl ?_
  exact hk50 s0 M10

set_option maxRecDepth 100000 in
set_option maxHeartbeats 4000000 in
theorem g_X9_takeNumber_h50_b {X : gX} (C : gC X cX9_takeNumber RX9 6 (some .int) 1 25) (F : Nat) (a0 : Int32) (a1 : Int32) (k50 : Int32 → gM → Option (Int32 × gM)) (hk50 : ∀ (x4 : Int32) (M : gM), G X (gQm X rvW rMW) 6 M [(0, .ref (xad X 95)), (1, .int a0), (2, .int a1), (4, .int x4)] [] 50 (k50 x4 M)) (x4 : Int32) (M : gM) : G X (gQm X rvW rMW) 6 M [(0, .ref (xad X 95)), (1, .int a0), (2, .int a1), (4, .int x4)] [] 50 (f_X9_takeNumber_h50_b F a0 a1 k50 x4 M) := by
  unfold f_X9_takeNumber_h50_b
  refine g_aload_n (pc := 50) C dX9_takeNumber_50 rfl 0 rfl ?_
  refine gf_X9_100 (pc := 51) C kd_95 dX9_takeNumber_51 ?_
  refine g_aload_n (pc := 54) C dX9_takeNumber_54 rfl 0 rfl ?_
  refine gf_X9_94 (pc := 55) C kd_95 dX9_takeNumber_55 ?_
  refine g_icmp_ge (pc := 58) (tgt := 128) C dX9_takeNumber_58 (by decide) ?_ ?_
  · exact g_X9_takeNumber_b128 C F a0 a1 x4 M
  · refine g_aload_n (pc := 61) C dX9_takeNumber_61 rfl 0 rfl ?_
    refine gf_X9_50 (pc := 62) (u := 109) C kd_95 rfl dX9_takeNumber_62 ?_
    refine g_aload_n (pc := 65) C dX9_takeNumber_65 rfl 0 rfl ?_
    refine gf_X9_100 (pc := 66) C kd_95 dX9_takeNumber_66 ?_
    refine g_iald (pc := 69) C kd_109 dX9_takeNumber_69 ?_
    refine g_i2l (pc := 70) C dX9_takeNumber_70 ?_
    refine g_ldc2 (pc := 71) C wl_X9_120 dX9_takeNumber_71 ?_
    refine g_ldc2 (pc := 74) C wl_X9_122 dX9_takeNumber_74 ?_
    refine g_callR (pc := 77) C (g_runS (stk := []) C (c_X9_in ((M 109 (M 95 15).toNatClampNeg).toInt64) (48 : Int64) (57 : Int64) M) rfl rfl rfl wC_X9_in wS_X9_in wi_X9 wm_X9_89 hy_X9_in (by decide) (Nat.le_of_ble_eq_true rfl) dX9_takeNumber_77) (fun r9 => ?_)
    refine g_if_eq (pc := 80) (tgt := 128) C dX9_takeNumber_80 (by decide) ?_ ?_
    · exact g_X9_takeNumber_b128 C F a0 a1 x4 M
    · refine g_iload (pc := 83) C dX9_takeNumber_83 3 rfl ?_
      refine g_ldc (pc := 85) C wk_X9_128 dX9_takeNumber_85 ?_
      refine g_icmp_le (pc := 87) (tgt := 95) C dX9_takeNumber_87 (by decide) ?_ ?_
      · refine g_bipush (pc := 95) C dX9_takeNumber_95 ic_bipush_10 ?_
        refine g_iload (pc := 97) C dX9_takeNumber_97 3 rfl ?_
        refine g_imul (pc := 99) C dX9_takeNumber_99 ?_
        refine g_aload_n (pc := 100) C dX9_takeNumber_100 rfl 0 rfl ?_
        refine gf_X9_50 (pc := 101) (u := 109) C kd_95 rfl dX9_takeNumber_101 ?_
        refine g_aload_n (pc := 104) C dX9_takeNumber_104 rfl 0 rfl ?_
        refine gf_X9_100 (pc := 105) C kd_95 dX9_takeNumber_105 ?_
        refine g_iald (pc := 108) C kd_109 dX9_takeNumber_108 ?_
        refine g_iadd (pc := 109) C dX9_takeNumber_109 ?_
        refine g_bipush (pc := 110) C dX9_takeNumber_110 ic_bipush_48 ?_
        refine g_isub (pc := 112) C dX9_takeNumber_112 ?_
        refine g_sub (lv' := [(0, .ref (xad X 95)), (1, .int a0), (2, .int a1)]) [0, 1, 2] rfl ?_
        exact g_X9_takeNumber_b113 C F a0 a1 k50 hk50 ((((10 : Int32) * x4) + (M 109 (M 95 15).toNatClampNeg)) - (48 : Int32)) M
      · refine g_iload (pc := 90) C dX9_takeNumber_90 3 rfl ?_
        refine g_goto (pc := 92) (tgt := 113) C dX9_takeNumber_92 (by decide) ?_
        refine g_sub (lv' := [(0, .ref (xad X 95)), (1, .int a0), (2, .int a1)]) [0, 1, 2] rfl ?_
        exact g_X9_takeNumber_b113 C F a0 a1 k50 hk50 x4 M

theorem g_X9_takeNumber_h50 {X : gX} (C : gC X cX9_takeNumber RX9 6 (some .int) 1 25) (F : Nat) (a0 : Int32) (a1 : Int32) : ∀ (n : Nat) (x4 : Int32) (M : gM), G X (gQm X rvW rMW) 6 M [(0, .ref (xad X 95)), (1, .int a0), (2, .int a1), (4, .int x4)] [] 50 (f_X9_takeNumber_h50 F a0 a1 n x4 M) := by
  intro n
  induction n with
  | zero =>
    intro x4 M r hr
    have hr2 : (none : Option (Int32 × gM)) = some r := hr
    cases hr2
  | succ n ih =>
    intro x4 M
    exact g_X9_takeNumber_h50_b C F a0 a1 _ ih x4 M
set_option maxRecDepth 100000 in
set_option maxHeartbeats 4000000 in
theorem c_X9_takeNumber (F : Nat) (a0 : Int32) (a1 : Int32)  (M : gM) : gCt yX9_takeNumber cX9_takeNumber 6 (some .int) 1 25 (fun ad K V => [.ref (ad 95), .int a0, .int a1]) rvW rMW M (f_X9_takeNumber F a0 a1 M) := by
  refine g_met (y := yX9_takeNumber) (by decide +kernel) (fun _ _ _ => Nat.le_of_ble_eq_true rfl) (fun X C => ?_)
  show G X (gQm X rvW rMW) 6 M [(0, .ref (xad X 95)), (1, .int a0), (2, .int a1)] [] 0 (f_X9_takeNumber F a0 a1 M)
  unfold f_X9_takeNumber
  refine g_aload_n (pc := 0) C dX9_takeNumber_0 rfl 0 rfl ?_
  refine gf_X9_103 (pc := 1) C kd_95 dX9_takeNumber_1 ?_
  refine g_if_le (pc := 4) (tgt := 9) C dX9_takeNumber_4 (by decide) ?_ ?_
  · refine g_aload_n (pc := 9) C dX9_takeNumber_9 rfl 0 rfl ?_
    refine g_callW (pc := 10) C (g_runV (stk := []) C (c_X9_here F M) rfl rfl rfl kd_95 rfl wC_X9_here wI_X9_here wV_X9_here wi_X9 wm_X9_106 hy_X9_here (by decide) (Nat.le_of_ble_eq_true rfl) dX9_takeNumber_10) (fun r1 => ?_)
    refine g_lt (fun v2 => ?_)
    refine g_istore_n (pc := 13) (lv' := [(3, .int v2), (0, .ref (xad X 95)), (1, .int a0), (2, .int a1)]) C dX9_takeNumber_13 rfl (by decide) rfl ?_
    refine g_aload_n (pc := 14) C dX9_takeNumber_14 rfl 1 rfl ?_
    refine g_aload_n (pc := 15) C dX9_takeNumber_15 rfl 1 rfl ?_
    refine gf_X9_100 (pc := 16) C kd_95 dX9_takeNumber_16 ?_
    refine gp_X9_110 (pc := 19) C kd_95 dX9_takeNumber_19 ?_
    refine g_ltM (fun M3 => ?_)
    refine g_aload_n (pc := 22) C dX9_takeNumber_22 rfl 1 rfl ?_
    refine g_iload_n (pc := 23) C dX9_takeNumber_23 rfl 0 rfl ?_
    refine g_i2l (pc := 24) C dX9_takeNumber_24 ?_
    refine g_ldc2 (pc := 25) C wl_X9_120 dX9_takeNumber_25 ?_
    refine g_ldc2 (pc := 28) C wl_X9_122 dX9_takeNumber_28 ?_
    refine g_callR (pc := 31) C (g_runS (stk := [.ref (xad X 95)]) C (c_X9_in v2.toInt64 (48 : Int64) (57 : Int64) M3) rfl rfl rfl wC_X9_in wS_X9_in wi_X9 wm_X9_89 hy_X9_in (by decide) (Nat.le_of_ble_eq_true rfl) dX9_takeNumber_31) (fun r4 => ?_)
    refine g_iconst (pc := 34) C dX9_takeNumber_34 ic_iconst_1 ?_
    refine g_aload_n (pc := 35) C dX9_takeNumber_35 rfl 1 rfl ?_
    refine gf_X9_100 (pc := 36) C kd_95 dX9_takeNumber_36 ?_
    refine g_callW (pc := 39) C (g_runV (stk := []) C (c_X9_want r4 (1 : Int32) (M3 95 15) M3) rfl rfl rfl kd_95 rfl wC_X9_want wI_X9_want wV_X9_want wi_X9 wm_X9_124 hy_X9_want (by decide) (Nat.le_of_ble_eq_true rfl) dX9_takeNumber_39) (fun r5 => ?_)
    refine g_if_ne (pc := 42) (tgt := 47) C dX9_takeNumber_42 (by decide) ?_ ?_
    · refine g_iconst (pc := 47) C dX9_takeNumber_47 ic_iconst_0 ?_
      refine g_istore (pc := 48) (lv' := [(4, .int (0 : Int32)), (3, .int v2), (0, .ref (xad X 95)), (1, .int a0), (2, .int a1)]) C dX9_takeNumber_48 (by decide) rfl ?_
      refine g_sub (lv' := [(0, .ref (xad X 95)), (1, .int a0), (2, .int a1), (4, .int (0 : Int32))]) [2, 3, 4, 0] rfl ?_
      exact g_X9_takeNumber_h50 C F a0 a1 F (0 : Int32) r5.2
    · refine g_iconst (pc := 45) C dX9_takeNumber_45 ic_iconst_0 ?_
      exact g_iret (pc := 46) C dX9_takeNumber_46 rfl rfl
  · refine g_iconst (pc := 7) C dX9_takeNumber_7 ic_iconst_0 ?_
    exact g_iret (pc := 8) C dX9_takeNumber_8 rfl rfl

/-! X9_takeClash -/
set_option maxRecDepth 100000 in
set_option maxHeartbeats 4000000 in
theorem g_X9_takeClash_b62 {X : gX} (C : gC X cX9_takeClash RX9 3 none 2 50) (F : Nat) (x1 : Int32) (x2 : Int32) (s0 : Int32) (M : gM) : G X (gQm X rvV rMV) 3 M [(0, .ref (xad X 95)), (1, .int x1), (2, .int x2)] [.int s0, .ref (xad X 95)] 62 (f_X9_takeClash_b62 F x1 x2 s0 M) := by
  unfold f_X9_takeClash_b62
  refine g_iconst (pc := 62) C dX9_takeClash_62 ic_iconst_4 ?_
  refine g_aload_n (pc := 63) C dX9_takeClash_63 rfl 0 rfl ?_
  refine gf_X9_110 (pc := 64) C kd_95 dX9_takeClash_64 ?_
  refine g_callW (pc := 67) C (g_runV (stk := []) C (c_X9_want s0 (4 : Int32) (M 95 16) M) rfl rfl rfl kd_95 rfl wC_X9_want wI_X9_want wV_X9_want wi_X9 wm_X9_124 hy_X9_want (by decide) (Nat.le_of_ble_eq_true rfl) dX9_takeClash_67) (fun r5 => ?_)
  refine g_if_eq (pc := 70) (tgt := 113) C dX9_takeClash_70 (by decide) ?_ ?_
  · exact g_vret (pc := 113) C dX9_takeClash_113 rfl rfl
  · refine g_aload_n (pc := 73) C dX9_takeClash_73 rfl 0 rfl ?_
    refine gf_X9_35 (pc := 74) (u := 104) C kd_95 rfl dX9_takeClash_74 ?_
    refine g_bipush (pc := 77) C dX9_takeClash_77 ic_bipush_10 ?_
    refine g_iload_n (pc := 79) C dX9_takeClash_79 rfl 1 rfl ?_
    refine g_iadd (pc := 80) C dX9_takeClash_80 ?_
    refine g_dup2 (pc := 81) C dX9_takeClash_81 rfl rfl ?_
    refine g_iald (pc := 82) C kd_104 dX9_takeClash_82 ?_
    refine g_iconst (pc := 83) C dX9_takeClash_83 ic_iconst_1 ?_
    refine g_iload_n (pc := 84) C dX9_takeClash_84 rfl 2 rfl ?_
    refine g_ishl (pc := 85) C dX9_takeClash_85 ?_
    refine g_ior (pc := 86) C dX9_takeClash_86 ?_
    refine g_iast (pc := 87) C kd_104 dX9_takeClash_87 ?_
    refine g_ltM (fun M6 => ?_)
    refine g_aload_n (pc := 88) C dX9_takeClash_88 rfl 0 rfl ?_
    refine gf_X9_35 (pc := 89) (u := 104) C kd_95 rfl dX9_takeClash_89 ?_
    refine g_bipush (pc := 92) C dX9_takeClash_92 ic_bipush_10 ?_
    refine g_iload_n (pc := 94) C dX9_takeClash_94 rfl 2 rfl ?_
    refine g_iadd (pc := 95) C dX9_takeClash_95 ?_
    refine g_dup2 (pc := 96) C dX9_takeClash_96 rfl rfl ?_
    refine g_iald (pc := 97) C kd_104 dX9_takeClash_97 ?_
    refine g_iconst (pc := 98) C dX9_takeClash_98 ic_iconst_1 ?_
    refine g_iload_n (pc := 99) C dX9_takeClash_99 rfl 1 rfl ?_
    refine g_ishl (pc := 100) C dX9_takeClash_100 ?_
    refine g_ior (pc := 101) C dX9_takeClash_101 ?_
    refine g_iast (pc := 102) C kd_104 dX9_takeClash_102 ?_
    refine g_ltM (fun M7 => ?_)
    refine g_aload_n (pc := 103) C dX9_takeClash_103 rfl 0 rfl ?_
    refine gf_X9_47 (pc := 104) (u := 108) C kd_95 rfl dX9_takeClash_104 ?_
    refine g_iconst (pc := 107) C dX9_takeClash_107 ic_iconst_5 ?_
    refine g_dup2 (pc := 108) C dX9_takeClash_108 rfl rfl ?_
    refine g_iald (pc := 109) C kd_108 dX9_takeClash_109 ?_
    refine g_iconst (pc := 110) C dX9_takeClash_110 ic_iconst_1 ?_
    refine g_iadd (pc := 111) C dX9_takeClash_111 ?_
    refine g_iast (pc := 112) C kd_108 dX9_takeClash_112 ?_
    refine g_ltM (fun M8 => ?_)
    exact g_vret (pc := 113) C dX9_takeClash_113 rfl rfl

set_option maxRecDepth 100000 in
set_option maxHeartbeats 4000000 in
theorem g_X9_takeClash_b61 {X : gX} (C : gC X cX9_takeClash RX9 3 none 2 50) (F : Nat) (x1 : Int32) (x2 : Int32) (M : gM) : G X (gQm X rvV rMV) 3 M [(0, .ref (xad X 95)), (1, .int x1), (2, .int x2)] [.ref (xad X 95)] 61 (f_X9_takeClash_b61 F x1 x2 M) := by
  unfold f_X9_takeClash_b61
  refine g_iconst (pc := 61) C dX9_takeClash_61 ic_iconst_0 ?_
  exact g_X9_takeClash_b62 C F x1 x2 (0 : Int32) M

set_option maxRecDepth 100000 in
set_option maxHeartbeats 4000000 in
theorem c_X9_takeClash (F : Nat)  (M : gM) : gCt yX9_takeClash cX9_takeClash 3 none 2 50 (fun ad K V => [.ref (ad 95)]) rvV rMV M (f_X9_takeClash F M) := by
  refine g_met (y := yX9_takeClash) (by decide +kernel) (fun _ _ _ => Nat.le_of_ble_eq_true rfl) (fun X C => ?_)
  show G X (gQm X rvV rMV) 3 M [(0, .ref (xad X 95))] [] 0 (f_X9_takeClash F M)
  unfold f_X9_takeClash
  refine g_aload_n (pc := 0) C dX9_takeClash_0 rfl 0 rfl ?_
  refine g_iconst (pc := 1) C dX9_takeClash_1 ic_iconst_0 ?_
  refine g_aload_n (pc := 2) C dX9_takeClash_2 rfl 0 rfl ?_
  refine gf_X9_47 (pc := 3) (u := 108) C kd_95 rfl dX9_takeClash_3 ?_
  refine g_iconst (pc := 6) C dX9_takeClash_6 ic_iconst_4 ?_
  refine g_iald (pc := 7) C kd_108 dX9_takeClash_7 ?_
  refine g_iconst (pc := 8) C dX9_takeClash_8 ic_iconst_1 ?_
  refine g_isub (pc := 9) C dX9_takeClash_9 ?_
  refine g_callW (pc := 10) C (g_runV (stk := []) C (c_X9_takeNumber F (0 : Int32) ((M 108 (4 : Int32).toNatClampNeg) - (1 : Int32)) M) rfl rfl rfl kd_95 rfl wC_X9_takeNumber wI_X9_takeNumber wV_X9_takeNumber wi_X9 wm_X9_136 hy_X9_takeNumber (by decide) (Nat.le_of_ble_eq_true rfl) dX9_takeClash_10) (fun r1 => ?_)
  refine g_lt (fun v2 => ?_)
  refine g_istore_n (pc := 13) (lv' := [(1, .int v2), (0, .ref (xad X 95))]) C dX9_takeClash_13 rfl (by decide) rfl ?_
  refine g_aload_n (pc := 14) C dX9_takeClash_14 rfl 1 rfl ?_
  refine g_iconst (pc := 15) C dX9_takeClash_15 ic_iconst_0 ?_
  refine g_aload_n (pc := 16) C dX9_takeClash_16 rfl 1 rfl ?_
  refine gf_X9_47 (pc := 17) (u := 108) C kd_95 rfl dX9_takeClash_17 ?_
  refine g_iconst (pc := 20) C dX9_takeClash_20 ic_iconst_4 ?_
  refine g_iald (pc := 21) C kd_108 dX9_takeClash_21 ?_
  refine g_iconst (pc := 22) C dX9_takeClash_22 ic_iconst_1 ?_
  refine g_isub (pc := 23) C dX9_takeClash_23 ?_
  refine g_callW (pc := 24) C (g_runV (stk := []) C (c_X9_takeNumber F (0 : Int32) ((r1.2 108 (4 : Int32).toNatClampNeg) - (1 : Int32)) r1.2) rfl rfl rfl kd_95 rfl wC_X9_takeNumber wI_X9_takeNumber wV_X9_takeNumber wi_X9 wm_X9_136 hy_X9_takeNumber (by decide) (Nat.le_of_ble_eq_true rfl) dX9_takeClash_24) (fun r3 => ?_)
  refine g_lt (fun v4 => ?_)
  refine g_istore_n (pc := 27) (lv' := [(2, .int v4), (1, .int v2), (0, .ref (xad X 95))]) C dX9_takeClash_27 rfl (by decide) rfl ?_
  refine g_aload_n (pc := 28) C dX9_takeClash_28 rfl 2 rfl ?_
  refine gf_X9_103 (pc := 29) C kd_95 dX9_takeClash_29 ?_
  refine g_if_ne (pc := 32) (tgt := 113) C dX9_takeClash_32 (by decide) ?_ ?_
  · exact g_vret (pc := 113) C dX9_takeClash_113 rfl rfl
  · refine g_aload_n (pc := 35) C dX9_takeClash_35 rfl 2 rfl ?_
    refine g_iload_n (pc := 36) C dX9_takeClash_36 rfl 1 rfl ?_
    refine g_iload_n (pc := 37) C dX9_takeClash_37 rfl 0 rfl ?_
    refine g_icmp_eq (pc := 38) (tgt := 61) C dX9_takeClash_38 (by decide) ?_ ?_
    · refine g_sub (lv' := [(0, .ref (xad X 95)), (1, .int v2), (2, .int v4)]) [2, 1, 0] rfl ?_
      exact g_X9_takeClash_b61 C F v2 v4 r3.2
    · refine g_aload_n (pc := 41) C dX9_takeClash_41 rfl 2 rfl ?_
      refine gf_X9_35 (pc := 42) (u := 104) C kd_95 rfl dX9_takeClash_42 ?_
      refine g_bipush (pc := 45) C dX9_takeClash_45 ic_bipush_10 ?_
      refine g_iload_n (pc := 47) C dX9_takeClash_47 rfl 1 rfl ?_
      refine g_iadd (pc := 48) C dX9_takeClash_48 ?_
      refine g_iald (pc := 49) C kd_104 dX9_takeClash_49 ?_
      refine g_iload_n (pc := 50) C dX9_takeClash_50 rfl 0 rfl ?_
      refine g_callR (pc := 51) C (g_runS (stk := [.ref (xad X 95)]) C (c_X9_has (r3.2 104 ((10 : Int32) + v2).toNatClampNeg) v4 r3.2) rfl rfl rfl wC_X9_has wS_X9_has wi_X9 wm_X9_140 hy_X9_has (by decide) (Nat.le_of_ble_eq_true rfl) dX9_takeClash_51) (fun r9 => ?_)
      refine g_if_ne (pc := 54) (tgt := 61) C dX9_takeClash_54 (by decide) ?_ ?_
      · refine g_sub (lv' := [(0, .ref (xad X 95)), (1, .int v2), (2, .int v4)]) [2, 1, 0] rfl ?_
        exact g_X9_takeClash_b61 C F v2 v4 r3.2
      · refine g_iconst (pc := 57) C dX9_takeClash_57 ic_iconst_1 ?_
        refine g_goto (pc := 58) (tgt := 62) C dX9_takeClash_58 (by decide) ?_
        refine g_sub (lv' := [(0, .ref (xad X 95)), (1, .int v2), (2, .int v4)]) [2, 1, 0] rfl ?_
        exact g_X9_takeClash_b62 C F v2 v4 (1 : Int32) r3.2

/-! X9_takeWord -/
set_option maxRecDepth 100000 in
set_option maxHeartbeats 4000000 in
theorem g_X9_takeWord_b59 {X : gX} (C : gC X cX9_takeWord RX9 2 none 1 25) (F : Nat) (M : gM) : G X (gQm X rvV rMV) 2 M [(0, .ref (xad X 95))] [] 59 (f_X9_takeWord_b59 F M) := by
  unfold f_X9_takeWord_b59
  refine g_aload_n (pc := 59) C dX9_takeWord_59 rfl 0 rfl ?_
  refine g_aload_n (pc := 60) C dX9_takeWord_60 rfl 0 rfl ?_
  refine gf_X9_100 (pc := 61) C kd_95 dX9_takeWord_61 ?_
  refine g_aload_n (pc := 64) C dX9_takeWord_64 rfl 0 rfl ?_
  refine gf_X9_110 (pc := 65) C kd_95 dX9_takeWord_65 ?_
  refine g_isub (pc := 68) C dX9_takeWord_68 ?_
  refine gp_X9_117 (pc := 69) C kd_95 dX9_takeWord_69 ?_
  refine g_ltM (fun M4 => ?_)
  exact g_vret (pc := 72) C dX9_takeWord_72 rfl rfl

set_option maxRecDepth 100000 in
set_option maxHeartbeats 4000000 in
theorem g_X9_takeWord_h13_b {X : gX} (C : gC X cX9_takeWord RX9 2 none 1 25) (F : Nat) (k13 : gM → Option gM) (hk13 : ∀ (M : gM), G X (gQm X rvV rMV) 2 M [(0, .ref (xad X 95))] [] 13 (k13 M)) (M : gM) : G X (gQm X rvV rMV) 2 M [(0, .ref (xad X 95))] [] 13 (f_X9_takeWord_h13_b F k13 M) := by
  unfold f_X9_takeWord_h13_b
  refine g_aload_n (pc := 13) C dX9_takeWord_13 rfl 0 rfl ?_
  refine gf_X9_100 (pc := 14) C kd_95 dX9_takeWord_14 ?_
  refine g_aload_n (pc := 17) C dX9_takeWord_17 rfl 0 rfl ?_
  refine gf_X9_94 (pc := 18) C kd_95 dX9_takeWord_18 ?_
  refine g_icmp_ge (pc := 21) (tgt := 59) C dX9_takeWord_21 (by decide) ?_ ?_
  · exact g_X9_takeWord_b59 C F M
  · refine g_aload_n (pc := 24) C dX9_takeWord_24 rfl 0 rfl ?_
    refine gf_X9_50 (pc := 25) (u := 109) C kd_95 rfl dX9_takeWord_25 ?_
    refine g_aload_n (pc := 28) C dX9_takeWord_28 rfl 0 rfl ?_
    refine gf_X9_100 (pc := 29) C kd_95 dX9_takeWord_29 ?_
    refine g_iald (pc := 32) C kd_109 dX9_takeWord_32 ?_
    refine g_i2l (pc := 33) C dX9_takeWord_33 ?_
    refine g_ldc2 (pc := 34) C wl_X9_113 dX9_takeWord_34 ?_
    refine g_ldc2 (pc := 37) C wl_X9_115 dX9_takeWord_37 ?_
    refine g_callR (pc := 40) C (g_runS (stk := []) C (c_X9_in ((M 109 (M 95 15).toNatClampNeg).toInt64) (97 : Int64) (122 : Int64) M) rfl rfl rfl wC_X9_in wS_X9_in wi_X9 wm_X9_89 hy_X9_in (by decide) (Nat.le_of_ble_eq_true rfl) dX9_takeWord_40) (fun r5 => ?_)
    refine g_if_eq (pc := 43) (tgt := 59) C dX9_takeWord_43 (by decide) ?_ ?_
    · exact g_X9_takeWord_b59 C F M
    · refine g_aload_n (pc := 46) C dX9_takeWord_46 rfl 0 rfl ?_
      refine g_dup (pc := 47) C dX9_takeWord_47 rfl ?_
      refine gf_X9_100 (pc := 48) C kd_95 dX9_takeWord_48 ?_
      refine g_iconst (pc := 51) C dX9_takeWord_51 ic_iconst_1 ?_
      refine g_iadd (pc := 52) C dX9_takeWord_52 ?_
      refine gp_X9_100 (pc := 53) C kd_95 dX9_takeWord_53 ?_
      refine g_ltM (fun M6 => ?_)
      refine g_goto (pc := 56) (tgt := 13) C dX9_takeWord_56 (by decide) ?_
      exact hk13 M6

theorem g_X9_takeWord_h13 {X : gX} (C : gC X cX9_takeWord RX9 2 none 1 25) (F : Nat) : ∀ (n : Nat) (M : gM), G X (gQm X rvV rMV) 2 M [(0, .ref (xad X 95))] [] 13 (f_X9_takeWord_h13 F n M) := by
  intro n
  induction n with
  | zero =>
    intro M r hr
    have hr2 : (none : Option gM) = some r := hr
    cases hr2
  | succ n ih =>
    intro M
    exact g_X9_takeWord_h13_b C F _ ih M
set_option maxRecDepth 100000 in
set_option maxHeartbeats 4000000 in
theorem c_X9_takeWord (F : Nat)  (M : gM) : gCt yX9_takeWord cX9_takeWord 2 none 1 25 (fun ad K V => [.ref (ad 95)]) rvV rMV M (f_X9_takeWord F M) := by
  refine g_met (y := yX9_takeWord) (by decide +kernel) (fun _ _ _ => Nat.le_of_ble_eq_true rfl) (fun X C => ?_)
  show G X (gQm X rvV rMV) 2 M [(0, .ref (xad X 95))] [] 0 (f_X9_takeWord F M)
  unfold f_X9_takeWord
  refine g_aload_n (pc := 0) C dX9_takeWord_0 rfl 0 rfl ?_
  refine g_callW (pc := 1) C (g_runV (stk := []) C (c_X9_here F M) rfl rfl rfl kd_95 rfl wC_X9_here wI_X9_here wV_X9_here wi_X9 wm_X9_106 hy_X9_here (by decide) (Nat.le_of_ble_eq_true rfl) dX9_takeWord_1) (fun r1 => ?_)
  refine g_lt (fun v2 => ?_)
  refine g_istore_n (pc := 4) (lv' := [(1, .int v2), (0, .ref (xad X 95))]) C dX9_takeWord_4 rfl (by decide) rfl ?_
  refine g_aload_n (pc := 5) C dX9_takeWord_5 rfl 1 rfl ?_
  refine g_aload_n (pc := 6) C dX9_takeWord_6 rfl 1 rfl ?_
  refine gf_X9_100 (pc := 7) C kd_95 dX9_takeWord_7 ?_
  refine gp_X9_110 (pc := 10) C kd_95 dX9_takeWord_10 ?_
  refine g_ltM (fun M3 => ?_)
  refine g_sub (lv' := [(0, .ref (xad X 95))]) [1] rfl ?_
  exact g_X9_takeWord_h13 C F F M3

/-! X9_takePart -/
set_option maxRecDepth 100000 in
set_option maxHeartbeats 4000000 in
theorem g_X9_takePart_b194 {X : gX} (C : gC X cX9_takePart RX9 3 none 2 50) (F : Nat) (x1 : Int32) (s0 : Int32) (M : gM) : G X (gQm X rvV rMV) 3 M [(0, .ref (xad X 95)), (1, .int x1)] [.int s0, .ref (xad X 95)] 194 (f_X9_takePart_b194 F x1 s0 M) := by
  unfold f_X9_takePart_b194
  refine g_iconst (pc := 194) C dX9_takePart_194 ic_iconst_4 ?_
  refine g_aload_n (pc := 195) C dX9_takePart_195 rfl 0 rfl ?_
  refine gf_X9_110 (pc := 196) C kd_95 dX9_takePart_196 ?_
  refine g_callW (pc := 199) C (g_runV (stk := []) C (c_X9_want s0 (4 : Int32) (M 95 16) M) rfl rfl rfl kd_95 rfl wC_X9_want wI_X9_want wV_X9_want wi_X9 wm_X9_124 hy_X9_want (by decide) (Nat.le_of_ble_eq_true rfl) dX9_takePart_199) (fun r19 => ?_)
  refine g_lt (fun v20 => ?_)
  refine g_istore_n (pc := 202) (lv' := [(2, .int v20), (0, .ref (xad X 95)), (1, .int x1)]) C dX9_takePart_202 rfl (by decide) rfl ?_
  refine g_aload_n (pc := 203) C dX9_takePart_203 rfl 1 rfl ?_
  refine gf_X9_35 (pc := 204) (u := 104) C kd_95 rfl dX9_takePart_204 ?_
  refine g_iload_n (pc := 207) C dX9_takePart_207 rfl 2 rfl ?_
  refine g_iconst (pc := 208) C dX9_takePart_208 ic_iconst_0 ?_
  refine g_iast (pc := 209) C kd_104 dX9_takePart_209 ?_
  refine g_ltM (fun M21 => ?_)
  refine g_aload_n (pc := 210) C dX9_takePart_210 rfl 1 rfl ?_
  refine gf_X9_47 (pc := 211) (u := 108) C kd_95 rfl dX9_takePart_211 ?_
  refine g_iconst (pc := 214) C dX9_takePart_214 ic_iconst_4 ?_
  refine g_dup2 (pc := 215) C dX9_takePart_215 rfl rfl ?_
  refine g_iald (pc := 216) C kd_108 dX9_takePart_216 ?_
  refine g_iconst (pc := 217) C dX9_takePart_217 ic_iconst_1 ?_
  refine g_iadd (pc := 218) C dX9_takePart_218 ?_
  refine g_iast (pc := 219) C kd_108 dX9_takePart_219 ?_
  refine g_ltM (fun M22 => ?_)
  exact g_vret (pc := 220) C dX9_takePart_220 rfl rfl

set_option maxRecDepth 100000 in
set_option maxHeartbeats 4000000 in
theorem g_X9_takePart_b100 {X : gX} (C : gC X cX9_takePart RX9 3 none 2 50) (F : Nat) (x1 : Int32) (s0 : Int32) (M : gM) : G X (gQm X rvV rMV) 3 M [(0, .ref (xad X 95)), (1, .int x1)] [.int s0, .ref (xad X 95)] 100 (f_X9_takePart_b100 F x1 s0 M) := by
  unfold f_X9_takePart_b100
  refine g_iconst (pc := 100) C dX9_takePart_100 ic_iconst_1 ?_
  refine g_aload_n (pc := 101) C dX9_takePart_101 rfl 0 rfl ?_
  refine gf_X9_110 (pc := 102) C kd_95 dX9_takePart_102 ?_
  refine g_callW (pc := 105) C (g_runV (stk := []) C (c_X9_want s0 (1 : Int32) (M 95 16) M) rfl rfl rfl kd_95 rfl wC_X9_want wI_X9_want wV_X9_want wi_X9 wm_X9_124 hy_X9_want (by decide) (Nat.le_of_ble_eq_true rfl) dX9_takePart_105) (fun r7 => ?_)
  refine g_lt (fun v8 => ?_)
  refine g_istore_n (pc := 108) (lv' := [(2, .int v8), (0, .ref (xad X 95)), (1, .int x1)]) C dX9_takePart_108 rfl (by decide) rfl ?_
  refine g_aload_n (pc := 109) C dX9_takePart_109 rfl 1 rfl ?_
  refine gf_X9_20 (pc := 110) (u := 99) C kd_95 rfl dX9_takePart_110 ?_
  refine g_iload_n (pc := 113) C dX9_takePart_113 rfl 2 rfl ?_
  refine g_aload_n (pc := 114) C dX9_takePart_114 rfl 1 rfl ?_
  refine g_iconst (pc := 115) C dX9_takePart_115 ic_iconst_0 ?_
  refine g_iconst (pc := 116) C dX9_takePart_116 ic_iconst_3 ?_
  refine g_callW (pc := 117) C (g_runV (stk := [.int x1, .ref (xad X 99)]) C (c_X9_takeNumber F (0 : Int32) (3 : Int32) r7.2) rfl rfl rfl kd_95 rfl wC_X9_takeNumber wI_X9_takeNumber wV_X9_takeNumber wi_X9 wm_X9_136 hy_X9_takeNumber (by decide) (Nat.le_of_ble_eq_true rfl) dX9_takePart_117) (fun r9 => ?_)
  refine g_iast (pc := 120) C kd_99 dX9_takePart_120 ?_
  refine g_ltM (fun M10 => ?_)
  refine g_aload_n (pc := 121) C dX9_takePart_121 rfl 1 rfl ?_
  refine gf_X9_23 (pc := 122) (u := 100) C kd_95 rfl dX9_takePart_122 ?_
  refine g_iload_n (pc := 125) C dX9_takePart_125 rfl 2 rfl ?_
  refine g_aload_n (pc := 126) C dX9_takePart_126 rfl 1 rfl ?_
  refine g_iconst (pc := 127) C dX9_takePart_127 ic_iconst_0 ?_
  refine g_bipush (pc := 128) C dX9_takePart_128 ic_bipush_9 ?_
  refine g_callW (pc := 130) C (g_runV (stk := [.int x1, .ref (xad X 100)]) C (c_X9_takeNumber F (0 : Int32) (9 : Int32) M10) rfl rfl rfl kd_95 rfl wC_X9_takeNumber wI_X9_takeNumber wV_X9_takeNumber wi_X9 wm_X9_136 hy_X9_takeNumber (by decide) (Nat.le_of_ble_eq_true rfl) dX9_takePart_130) (fun r11 => ?_)
  refine g_iast (pc := 133) C kd_100 dX9_takePart_133 ?_
  refine g_ltM (fun M12 => ?_)
  refine g_aload_n (pc := 134) C dX9_takePart_134 rfl 1 rfl ?_
  refine gf_X9_26 (pc := 135) (u := 101) C kd_95 rfl dX9_takePart_135 ?_
  refine g_iload_n (pc := 138) C dX9_takePart_138 rfl 2 rfl ?_
  refine g_aload_n (pc := 139) C dX9_takePart_139 rfl 1 rfl ?_
  refine g_iconst (pc := 140) C dX9_takePart_140 ic_iconst_0 ?_
  refine g_bipush (pc := 141) C dX9_takePart_141 ic_bipush_99 ?_
  refine g_callW (pc := 143) C (g_runV (stk := [.int x1, .ref (xad X 101)]) C (c_X9_takeNumber F (0 : Int32) (99 : Int32) M12) rfl rfl rfl kd_95 rfl wC_X9_takeNumber wI_X9_takeNumber wV_X9_takeNumber wi_X9 wm_X9_136 hy_X9_takeNumber (by decide) (Nat.le_of_ble_eq_true rfl) dX9_takePart_143) (fun r13 => ?_)
  refine g_iast (pc := 146) C kd_101 dX9_takePart_146 ?_
  refine g_ltM (fun M14 => ?_)
  refine g_aload_n (pc := 147) C dX9_takePart_147 rfl 1 rfl ?_
  refine gf_X9_29 (pc := 148) (u := 102) C kd_95 rfl dX9_takePart_148 ?_
  refine g_iload_n (pc := 151) C dX9_takePart_151 rfl 2 rfl ?_
  refine g_aload_n (pc := 152) C dX9_takePart_152 rfl 1 rfl ?_
  refine g_iconst (pc := 153) C dX9_takePart_153 ic_iconst_0 ?_
  refine g_bipush (pc := 154) C dX9_takePart_154 ic_bipush_11 ?_
  refine g_callW (pc := 156) C (g_runV (stk := [.int x1, .ref (xad X 102)]) C (c_X9_takeNumber F (0 : Int32) (11 : Int32) M14) rfl rfl rfl kd_95 rfl wC_X9_takeNumber wI_X9_takeNumber wV_X9_takeNumber wi_X9 wm_X9_136 hy_X9_takeNumber (by decide) (Nat.le_of_ble_eq_true rfl) dX9_takePart_156) (fun r15 => ?_)
  refine g_iast (pc := 159) C kd_102 dX9_takePart_159 ?_
  refine g_ltM (fun M16 => ?_)
  refine g_aload_n (pc := 160) C dX9_takePart_160 rfl 1 rfl ?_
  refine gf_X9_32 (pc := 161) (u := 103) C kd_95 rfl dX9_takePart_161 ?_
  refine g_iload_n (pc := 164) C dX9_takePart_164 rfl 2 rfl ?_
  refine g_aload_n (pc := 165) C dX9_takePart_165 rfl 1 rfl ?_
  refine g_iconst (pc := 166) C dX9_takePart_166 ic_iconst_0 ?_
  refine g_bipush (pc := 167) C dX9_takePart_167 ic_bipush_11 ?_
  refine g_callW (pc := 169) C (g_runV (stk := [.int x1, .ref (xad X 103)]) C (c_X9_takeNumber F (0 : Int32) (11 : Int32) M16) rfl rfl rfl kd_95 rfl wC_X9_takeNumber wI_X9_takeNumber wV_X9_takeNumber wi_X9 wm_X9_136 hy_X9_takeNumber (by decide) (Nat.le_of_ble_eq_true rfl) dX9_takePart_169) (fun r17 => ?_)
  refine g_iast (pc := 172) C kd_103 dX9_takePart_172 ?_
  refine g_ltM (fun M18 => ?_)
  refine g_aload_n (pc := 173) C dX9_takePart_173 rfl 1 rfl ?_
  refine g_aload_n (pc := 174) C dX9_takePart_174 rfl 1 rfl ?_
  refine gf_X9_32 (pc := 175) (u := 103) C kd_95 rfl dX9_takePart_175 ?_
  refine g_iload_n (pc := 178) C dX9_takePart_178 rfl 2 rfl ?_
  refine g_iald (pc := 179) C kd_103 dX9_takePart_179 ?_
  refine g_aload_n (pc := 180) C dX9_takePart_180 rfl 1 rfl ?_
  refine gf_X9_29 (pc := 181) (u := 102) C kd_95 rfl dX9_takePart_181 ?_
  refine g_iload_n (pc := 184) C dX9_takePart_184 rfl 2 rfl ?_
  refine g_iald (pc := 185) C kd_102 dX9_takePart_185 ?_
  refine g_icmp_lt (pc := 186) (tgt := 193) C dX9_takePart_186 (by decide) ?_ ?_
  · refine g_iconst (pc := 193) C dX9_takePart_193 ic_iconst_0 ?_
    refine g_sub (lv' := [(0, .ref (xad X 95)), (1, .int x1)]) [1, 2] rfl ?_
    exact g_X9_takePart_b194 C F x1 (0 : Int32) M18
  · refine g_iconst (pc := 189) C dX9_takePart_189 ic_iconst_1 ?_
    refine g_goto (pc := 190) (tgt := 194) C dX9_takePart_190 (by decide) ?_
    refine g_sub (lv' := [(0, .ref (xad X 95)), (1, .int x1)]) [1, 2] rfl ?_
    exact g_X9_takePart_b194 C F x1 (1 : Int32) M18

set_option maxRecDepth 100000 in
set_option maxHeartbeats 4000000 in
theorem g_X9_takePart_b84 {X : gX} (C : gC X cX9_takePart RX9 3 none 2 50) (F : Nat) (x1 : Int32) (s0 : Int32) (s1 : Int32) (M : gM) : G X (gQm X rvV rMV) 3 M [(0, .ref (xad X 95)), (1, .int x1)] [.int s0, .int s1, .ref (xad X 98)] 84 (f_X9_takePart_b84 F x1 s0 s1 M) := by
  unfold f_X9_takePart_b84
  refine g_iast (pc := 84) C kd_98 dX9_takePart_84 ?_
  refine g_ltM (fun M6 => ?_)
  refine g_aload_n (pc := 85) C dX9_takePart_85 rfl 0 rfl ?_
  refine g_aload_n (pc := 86) C dX9_takePart_86 rfl 0 rfl ?_
  refine gf_X9_17 (pc := 87) (u := 98) C kd_95 rfl dX9_takePart_87 ?_
  refine g_iload_n (pc := 90) C dX9_takePart_90 rfl 1 rfl ?_
  refine g_iald (pc := 91) C kd_98 dX9_takePart_91 ?_
  refine g_if_lt (pc := 92) (tgt := 99) C dX9_takePart_92 (by decide) ?_ ?_
  · refine g_iconst (pc := 99) C dX9_takePart_99 ic_iconst_0 ?_
    exact g_X9_takePart_b100 C F x1 (0 : Int32) M6
  · refine g_iconst (pc := 95) C dX9_takePart_95 ic_iconst_1 ?_
    refine g_goto (pc := 96) (tgt := 100) C dX9_takePart_96 (by decide) ?_
    exact g_X9_takePart_b100 C F x1 (1 : Int32) M6

set_option maxRecDepth 100000 in
set_option maxHeartbeats 4000000 in
theorem c_X9_takePart (F : Nat)  (M : gM) : gCt yX9_takePart cX9_takePart 3 none 2 50 (fun ad K V => [.ref (ad 95)]) rvV rMV M (f_X9_takePart F M) := by
  refine g_met (y := yX9_takePart) (by decide +kernel) (fun _ _ _ => Nat.le_of_ble_eq_true rfl) (fun X C => ?_)
  show G X (gQm X rvV rMV) 3 M [(0, .ref (xad X 95))] [] 0 (f_X9_takePart F M)
  unfold f_X9_takePart
  refine g_aload_n (pc := 0) C dX9_takePart_0 rfl 0 rfl ?_
  refine g_callV (pc := 1) C (g_runV (stk := []) C (c_X9_takeWord F M) rfl rfl rfl kd_95 rfl wC_X9_takeWord wI_X9_takeWord wV_X9_takeWord wi_X9 wm_X9_129 hy_X9_takeWord (by decide) (Nat.le_of_ble_eq_true rfl) dX9_takePart_1) (fun r1 => ?_)
  refine g_bipush (pc := 4) C dX9_takePart_4 ic_bipush_10 ?_
  refine g_aload_n (pc := 6) C dX9_takePart_6 rfl 0 rfl ?_
  refine gf_X9_47 (pc := 7) (u := 108) C kd_95 rfl dX9_takePart_7 ?_
  refine g_iconst (pc := 10) C dX9_takePart_10 ic_iconst_4 ?_
  refine g_iald (pc := 11) C kd_108 dX9_takePart_11 ?_
  refine g_iadd (pc := 12) C dX9_takePart_12 ?_
  refine g_lt (fun v2 => ?_)
  refine g_istore_n (pc := 13) (lv' := [(1, .int v2), (0, .ref (xad X 95))]) C dX9_takePart_13 rfl (by decide) rfl ?_
  refine g_aload_n (pc := 14) C dX9_takePart_14 rfl 1 rfl ?_
  refine gf_X9_17 (pc := 15) (u := 98) C kd_95 rfl dX9_takePart_15 ?_
  refine g_iload_n (pc := 18) C dX9_takePart_18 rfl 0 rfl ?_
  refine g_aload_n (pc := 19) C dX9_takePart_19 rfl 1 rfl ?_
  refine g_iconst (pc := 20) C dX9_takePart_20 ic_iconst_4 ?_
  refine g_bipush (pc := 21) C dX9_takePart_21 ic_bipush_98 ?_
  refine g_bipush (pc := 23) C dX9_takePart_23 ic_bipush_114 ?_
  refine g_bipush (pc := 25) C dX9_takePart_25 ic_bipush_111 ?_
  refine g_bipush (pc := 27) C dX9_takePart_27 ic_bipush_119 ?_
  refine g_iconst (pc := 29) C dX9_takePart_29 ic_iconst_0 ?_
  refine g_callR (pc := 30) C (g_runV (stk := [.int v2, .ref (xad X 98)]) C (c_X9_isWord F (4 : Int32) (98 : Int32) (114 : Int32) (111 : Int32) (119 : Int32) (0 : Int32) r1) rfl rfl rfl kd_95 rfl wC_X9_isWord wI_X9_isWord wV_X9_isWord wi_X9 wm_X9_132 hy_X9_isWord (by decide) (Nat.le_of_ble_eq_true rfl) dX9_takePart_30) (fun r3 => ?_)
  refine g_if_eq (pc := 33) (tgt := 40) C dX9_takePart_33 (by decide) ?_ ?_
  · refine g_aload_n (pc := 40) C dX9_takePart_40 rfl 1 rfl ?_
    refine g_iconst (pc := 41) C dX9_takePart_41 ic_iconst_4 ?_
    refine g_bipush (pc := 42) C dX9_takePart_42 ic_bipush_101 ?_
    refine g_bipush (pc := 44) C dX9_takePart_44 ic_bipush_121 ?_
    refine g_bipush (pc := 46) C dX9_takePart_46 ic_bipush_101 ?_
    refine g_bipush (pc := 48) C dX9_takePart_48 ic_bipush_115 ?_
    refine g_iconst (pc := 50) C dX9_takePart_50 ic_iconst_0 ?_
    refine g_callR (pc := 51) C (g_runV (stk := [.int v2, .ref (xad X 98)]) C (c_X9_isWord F (4 : Int32) (101 : Int32) (121 : Int32) (101 : Int32) (115 : Int32) (0 : Int32) r1) rfl rfl rfl kd_95 rfl wC_X9_isWord wI_X9_isWord wV_X9_isWord wi_X9 wm_X9_132 hy_X9_isWord (by decide) (Nat.le_of_ble_eq_true rfl) dX9_takePart_51) (fun r4 => ?_)
    refine g_if_eq (pc := 54) (tgt := 61) C dX9_takePart_54 (by decide) ?_ ?_
    · refine g_aload_n (pc := 61) C dX9_takePart_61 rfl 1 rfl ?_
      refine g_iconst (pc := 62) C dX9_takePart_62 ic_iconst_5 ?_
      refine g_bipush (pc := 63) C dX9_takePart_63 ic_bipush_109 ?_
      refine g_bipush (pc := 65) C dX9_takePart_65 ic_bipush_111 ?_
      refine g_bipush (pc := 67) C dX9_takePart_67 ic_bipush_117 ?_
      refine g_bipush (pc := 69) C dX9_takePart_69 ic_bipush_116 ?_
      refine g_bipush (pc := 71) C dX9_takePart_71 ic_bipush_104 ?_
      refine g_callR (pc := 73) C (g_runV (stk := [.int v2, .ref (xad X 98)]) C (c_X9_isWord F (5 : Int32) (109 : Int32) (111 : Int32) (117 : Int32) (116 : Int32) (104 : Int32) r1) rfl rfl rfl kd_95 rfl wC_X9_isWord wI_X9_isWord wV_X9_isWord wi_X9 wm_X9_132 hy_X9_isWord (by decide) (Nat.le_of_ble_eq_true rfl) dX9_takePart_73) (fun r5 => ?_)
      refine g_if_eq (pc := 76) (tgt := 83) C dX9_takePart_76 (by decide) ?_ ?_
      · refine g_iconst (pc := 83) C dX9_takePart_83 ic_iconst_m1 ?_
        refine g_sub (lv' := [(0, .ref (xad X 95)), (1, .int v2)]) [1, 0] rfl ?_
        exact g_X9_takePart_b84 C F v2 (-1 : Int32) v2 r1
      · refine g_iconst (pc := 79) C dX9_takePart_79 ic_iconst_2 ?_
        refine g_goto (pc := 80) (tgt := 84) C dX9_takePart_80 (by decide) ?_
        refine g_sub (lv' := [(0, .ref (xad X 95)), (1, .int v2)]) [1, 0] rfl ?_
        exact g_X9_takePart_b84 C F v2 (2 : Int32) v2 r1
    · refine g_iconst (pc := 57) C dX9_takePart_57 ic_iconst_1 ?_
      refine g_goto (pc := 58) (tgt := 84) C dX9_takePart_58 (by decide) ?_
      refine g_sub (lv' := [(0, .ref (xad X 95)), (1, .int v2)]) [1, 0] rfl ?_
      exact g_X9_takePart_b84 C F v2 (1 : Int32) v2 r1
  · refine g_iconst (pc := 36) C dX9_takePart_36 ic_iconst_0 ?_
    refine g_goto (pc := 37) (tgt := 84) C dX9_takePart_37 (by decide) ?_
    refine g_sub (lv' := [(0, .ref (xad X 95)), (1, .int v2)]) [1, 0] rfl ?_
    exact g_X9_takePart_b84 C F v2 (0 : Int32) v2 r1

/-! X9_takeScene -/
set_option maxRecDepth 100000 in
set_option maxHeartbeats 4000000 in
theorem g_X9_takeScene_b71 {X : gX} (C : gC X cX9_takeScene RX9 3 none 2 50) (F : Nat) (s0 : Int32) (M : gM) : G X (gQm X rvV rMV) 3 M [(0, .ref (xad X 95))] [.int s0, .ref (xad X 95)] 71 (f_X9_takeScene_b71 F s0 M) := by
  unfold f_X9_takeScene_b71
  refine g_iconst (pc := 71) C dX9_takeScene_71 ic_iconst_4 ?_
  refine g_aload_n (pc := 72) C dX9_takeScene_72 rfl 0 rfl ?_
  refine gf_X9_110 (pc := 73) C kd_95 dX9_takeScene_73 ?_
  refine g_callW (pc := 76) C (g_runV (stk := []) C (c_X9_want s0 (4 : Int32) (M 95 16) M) rfl rfl rfl kd_95 rfl wC_X9_want wI_X9_want wV_X9_want wi_X9 wm_X9_124 hy_X9_want (by decide) (Nat.le_of_ble_eq_true rfl) dX9_takeScene_76) (fun r8 => ?_)
  refine g_lt (fun v9 => ?_)
  refine g_istore_n (pc := 79) (lv' := [(2, .int v9), (0, .ref (xad X 95))]) C dX9_takeScene_79 rfl (by decide) rfl ?_
  refine g_aload_n (pc := 80) C dX9_takeScene_80 rfl 1 rfl ?_
  refine gf_X9_47 (pc := 81) (u := 108) C kd_95 rfl dX9_takeScene_81 ?_
  refine g_bipush (pc := 84) C dX9_takeScene_84 ic_bipush_6 ?_
  refine g_dup2 (pc := 86) C dX9_takeScene_86 rfl rfl ?_
  refine g_iald (pc := 87) C kd_108 dX9_takeScene_87 ?_
  refine g_iconst (pc := 88) C dX9_takeScene_88 ic_iconst_1 ?_
  refine g_iadd (pc := 89) C dX9_takeScene_89 ?_
  refine g_iast (pc := 90) C kd_108 dX9_takeScene_90 ?_
  refine g_ltM (fun M10 => ?_)
  exact g_vret (pc := 91) C dX9_takeScene_91 rfl rfl

set_option maxRecDepth 100000 in
set_option maxHeartbeats 4000000 in
theorem c_X9_takeScene (F : Nat)  (M : gM) : gCt yX9_takeScene cX9_takeScene 3 none 2 50 (fun ad K V => [.ref (ad 95)]) rvV rMV M (f_X9_takeScene F M) := by
  refine g_met (y := yX9_takeScene) (by decide +kernel) (fun _ _ _ => Nat.le_of_ble_eq_true rfl) (fun X C => ?_)
  show G X (gQm X rvV rMV) 3 M [(0, .ref (xad X 95))] [] 0 (f_X9_takeScene F M)
  unfold f_X9_takeScene
  refine g_bipush (pc := 0) C dX9_takeScene_0 ic_bipush_8 ?_
  refine g_aload_n (pc := 2) C dX9_takeScene_2 rfl 0 rfl ?_
  refine gf_X9_47 (pc := 3) (u := 108) C kd_95 rfl dX9_takeScene_3 ?_
  refine g_bipush (pc := 6) C dX9_takeScene_6 ic_bipush_6 ?_
  refine g_iald (pc := 8) C kd_108 dX9_takeScene_8 ?_
  refine g_iadd (pc := 9) C dX9_takeScene_9 ?_
  refine g_lt (fun v1 => ?_)
  refine g_istore_n (pc := 10) (lv' := [(1, .int v1), (0, .ref (xad X 95))]) C dX9_takeScene_10 rfl (by decide) rfl ?_
  refine g_aload_n (pc := 11) C dX9_takeScene_11 rfl 1 rfl ?_
  refine gf_X9_38 (pc := 12) (u := 105) C kd_95 rfl dX9_takeScene_12 ?_
  refine g_iload_n (pc := 15) C dX9_takeScene_15 rfl 0 rfl ?_
  refine g_aload_n (pc := 16) C dX9_takeScene_16 rfl 1 rfl ?_
  refine g_iconst (pc := 17) C dX9_takeScene_17 ic_iconst_0 ?_
  refine g_bipush (pc := 18) C dX9_takeScene_18 ic_bipush_11 ?_
  refine g_callW (pc := 20) C (g_runV (stk := [.int v1, .ref (xad X 105)]) C (c_X9_takeNumber F (0 : Int32) (11 : Int32) M) rfl rfl rfl kd_95 rfl wC_X9_takeNumber wI_X9_takeNumber wV_X9_takeNumber wi_X9 wm_X9_136 hy_X9_takeNumber (by decide) (Nat.le_of_ble_eq_true rfl) dX9_takeScene_20) (fun r2 => ?_)
  refine g_iast (pc := 23) C kd_105 dX9_takeScene_23 ?_
  refine g_ltM (fun M3 => ?_)
  refine g_aload_n (pc := 24) C dX9_takeScene_24 rfl 1 rfl ?_
  refine gf_X9_41 (pc := 25) (u := 106) C kd_95 rfl dX9_takeScene_25 ?_
  refine g_iload_n (pc := 28) C dX9_takeScene_28 rfl 0 rfl ?_
  refine g_aload_n (pc := 29) C dX9_takeScene_29 rfl 1 rfl ?_
  refine g_iconst (pc := 30) C dX9_takeScene_30 ic_iconst_0 ?_
  refine g_bipush (pc := 31) C dX9_takeScene_31 ic_bipush_27 ?_
  refine g_callW (pc := 33) C (g_runV (stk := [.int v1, .ref (xad X 106)]) C (c_X9_takeNumber F (0 : Int32) (27 : Int32) M3) rfl rfl rfl kd_95 rfl wC_X9_takeNumber wI_X9_takeNumber wV_X9_takeNumber wi_X9 wm_X9_136 hy_X9_takeNumber (by decide) (Nat.le_of_ble_eq_true rfl) dX9_takeScene_33) (fun r4 => ?_)
  refine g_iast (pc := 36) C kd_106 dX9_takeScene_36 ?_
  refine g_ltM (fun M5 => ?_)
  refine g_aload_n (pc := 37) C dX9_takeScene_37 rfl 1 rfl ?_
  refine gf_X9_44 (pc := 38) (u := 107) C kd_95 rfl dX9_takeScene_38 ?_
  refine g_iload_n (pc := 41) C dX9_takeScene_41 rfl 0 rfl ?_
  refine g_aload_n (pc := 42) C dX9_takeScene_42 rfl 1 rfl ?_
  refine g_iconst (pc := 43) C dX9_takeScene_43 ic_iconst_0 ?_
  refine g_bipush (pc := 44) C dX9_takeScene_44 ic_bipush_27 ?_
  refine g_callW (pc := 46) C (g_runV (stk := [.int v1, .ref (xad X 107)]) C (c_X9_takeNumber F (0 : Int32) (27 : Int32) M5) rfl rfl rfl kd_95 rfl wC_X9_takeNumber wI_X9_takeNumber wV_X9_takeNumber wi_X9 wm_X9_136 hy_X9_takeNumber (by decide) (Nat.le_of_ble_eq_true rfl) dX9_takeScene_46) (fun r6 => ?_)
  refine g_iast (pc := 49) C kd_107 dX9_takeScene_49 ?_
  refine g_ltM (fun M7 => ?_)
  refine g_aload_n (pc := 50) C dX9_takeScene_50 rfl 1 rfl ?_
  refine g_aload_n (pc := 51) C dX9_takeScene_51 rfl 1 rfl ?_
  refine gf_X9_44 (pc := 52) (u := 107) C kd_95 rfl dX9_takeScene_52 ?_
  refine g_iload_n (pc := 55) C dX9_takeScene_55 rfl 0 rfl ?_
  refine g_iald (pc := 56) C kd_107 dX9_takeScene_56 ?_
  refine g_aload_n (pc := 57) C dX9_takeScene_57 rfl 1 rfl ?_
  refine gf_X9_41 (pc := 58) (u := 106) C kd_95 rfl dX9_takeScene_58 ?_
  refine g_iload_n (pc := 61) C dX9_takeScene_61 rfl 0 rfl ?_
  refine g_iald (pc := 62) C kd_106 dX9_takeScene_62 ?_
  refine g_icmp_lt (pc := 63) (tgt := 70) C dX9_takeScene_63 (by decide) ?_ ?_
  · refine g_iconst (pc := 70) C dX9_takeScene_70 ic_iconst_0 ?_
    refine g_sub (lv' := [(0, .ref (xad X 95))]) [1] rfl ?_
    exact g_X9_takeScene_b71 C F (0 : Int32) M7
  · refine g_iconst (pc := 66) C dX9_takeScene_66 ic_iconst_1 ?_
    refine g_goto (pc := 67) (tgt := 71) C dX9_takeScene_67 (by decide) ?_
    refine g_sub (lv' := [(0, .ref (xad X 95))]) [1] rfl ?_
    exact g_X9_takeScene_b71 C F (1 : Int32) M7

