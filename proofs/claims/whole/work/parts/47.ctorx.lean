def kf_X8  (u : ((Nat → Nat) × (Nat → Nat) × (Nat → Nat) × (Nat → Nat) × (Nat → Nat) × (Nat → Nat) × (Nat → Nat) × (Nat → Nat) × (Nat → Nat) × ((Nat → Nat) × (Nat → Nat) × (Nat → Nat) × (Nat → Nat)) × (Nat → Nat) × (Nat → Nat))) : List Value := [.ref (u.1 0), .ref (u.1 3), .ref (u.1 1), .ref (u.1 2), .ref (u.1 4), .ref (u.1 5), .ref (u.1 6), .ref (u.1 7), .ref (u.1 8), .ref (u.1 9), .ref (u.1 10), .ref (u.1 11), .ref (u.1 12), .int (-1 : Int32)]
def kl_X8 (CS : ClassId × ClassId × ClassId) (u : ((Nat → Nat) × (Nat → Nat) × (Nat → Nat) × (Nat → Nat) × (Nat → Nat) × (Nat → Nat) × (Nat → Nat) × (Nat → Nat) × (Nat → Nat) × ((Nat → Nat) × (Nat → Nat) × (Nat → Nat) × (Nat → Nat)) × (Nat → Nat) × (Nat → Nat))) : va_W := (((((((((((((([] : va_W) ++ (((u.1 0), .inr (6, kf_X6  (u.2.1))) :: kl_X6 CS (u.2.1))) ++ (((u.1 1), .inr (7, kf_X7  (u.2.2.1))) :: kl_X7 CS (u.2.2.1))) ++ (((u.1 2), .inr (7, kf_X7  (u.2.2.2.1))) :: kl_X7 CS (u.2.2.2.1))) ++ (((u.1 3), .inr (3, kf_X3 (u.1 0) (u.1 2) (u.2.2.2.2.1))) :: kl_X3 CS (u.2.2.2.2.1))) ++ (((u.1 4), .inr (5, kf_X5  (u.2.2.2.2.2.1))) :: kl_X5 CS (u.2.2.2.2.2.1))) ++ (((u.1 5), .inr (5, kf_X5  (u.2.2.2.2.2.2.1))) :: kl_X5 CS (u.2.2.2.2.2.2.1))) ++ (((u.1 6), .inr (5, kf_X5  (u.2.2.2.2.2.2.2.1))) :: kl_X5 CS (u.2.2.2.2.2.2.2.1))) ++ [((u.1 7), .inl (CS.2.1, 2, .inl fun _ => 0))]) ++ (((u.1 8), .inr (2, kf_X2 (u.1 1) (u.1 4) (u.2.2.2.2.2.2.2.2.1))) :: kl_X2 CS (u.2.2.2.2.2.2.2.2.1))) ++ (((u.1 9), .inr (1, kf_X1 (u.1 1) (u.1 8) (u.2.2.2.2.2.2.2.2.2.1))) :: kl_X1 CS (u.2.2.2.2.2.2.2.2.2.1))) ++ (((u.1 10), .inr (4, kf_X4 (u.1 1) (u.1 8) (u.2.2.2.2.2.2.2.2.2.2.1))) :: kl_X4 CS (u.2.2.2.2.2.2.2.2.2.2.1))) ++ (((u.1 11), .inr (0, kf_X0 (u.1 1) (u.2.2.2.2.2.2.2.2.2.2.2))) :: kl_X0 CS (u.2.2.2.2.2.2.2.2.2.2.2))) ++ [((u.1 12), .inl (CS.1, 10, .inl fun _ => 0))])
theorem hy_X8_init : yX8_init.cls ≠ "java/lang/invoke/MethodHandle" ∧ yX8_init.cls ≠ "java/lang/invoke/VarHandle" ∧ (parseMethodDescriptor yX8_init.desc).map (fun d => d.parameters.length) = some 0 := by decide +kernel
set_option maxRecDepth 100000 in
set_option maxHeartbeats 4000000 in
theorem c_X8_init  {w0 : va_W} {k h0 : Nat} (hw : w0[k]? = some (h0, .inr (8, [.null, .null, .null, .null, .null, .null, .null, .null, .null, .null, .null, .null, .null, .int 0]))) : kCt (σ := ((Nat → Nat) × (Nat → Nat) × (Nat → Nat) × (Nat → Nat) × (Nat → Nat) × (Nat → Nat) × (Nat → Nat) × (Nat → Nat) × (Nat → Nat) × ((Nat → Nat) × (Nat → Nat) × (Nat → Nat) × (Nat → Nat)) × (Nat → Nat) × (Nat → Nat))) yX8_init cX8_init 1 2 34 94 3500 [.ref h0] w0 k h0 8 (kf_X8 ) kl_X8 := by
  have hk : k < w0.length := (List.getElem?_eq_some_iff.mp hw).1
  refine k_met (fs0 := [.null, .null, .null, .null, .null, .null, .null, .null, .null, .null, .null, .null, .null, .int 0]) (by decide +kernel) rfl (Nat.le_of_ble_eq_true rfl) hw (fun X C => ?_)
  show kG X _ 1 _ 0 0 [(0, .ref h0)] [] 0
  refine k_aload_n (pc := 0) C dX8_init_0 rfl 0 rfl ?_
  refine k_obj (pc := 1) C (by decide) (Nat.le_of_ble_eq_true rfl) wm_X8_1 dX8_init_1 ?_
  refine k_aload_n (pc := 4) C dX8_init_4 rfl 0 rfl ?_
  refine k_new (pc := 5) (cj := 6) (ds := [.null, .int 0]) C tyX6 tyX6_ok inX6 rfl (by decide) wc_X8_7 wn_X6 wi_X6 (Nat.le_of_ble_eq_true rfl) (Nat.le_of_ble_eq_true rfl) dX8_init_5 (fun q1 => ?_)
  refine k_dup (pc := 8) C dX8_init_8 rfl ?_
  refine k_callE (pc := 9) (stk := [.ref q1, .ref h0]) (n := 0) (As := []) C (c_X6_init  (kW_in gl_last)) rfl rfl rfl wC_X6_init wI_X6_init wi_X6 wnm_X8_9 hy_X6_init (by decide) (Nat.le_of_ble_eq_true rfl) (Nat.le_of_ble_eq_true rfl) (Nat.le_of_ble_eq_true rfl) dX8_init_9 (fun u1 => ?_)
  refine k_putR (pc := 12) (i := 0) (T := TX8) (fs' := [.ref q1, .null, .null, .null, .null, .null, .null, .null, .null, .null, .null, .null, .null, .int 0]) C hk tyX8 tyX8_ok nmX8 inX8 rfl (by decide) wf_X8_10 rfl rfl (tyX8_ok 0 (by decide)) rfl rfl (Nat.le_of_ble_eq_true rfl) rfl dX8_init_12 ?_
  refine k_aload_n (pc := 15) C dX8_init_15 rfl 0 rfl ?_
  refine k_new (pc := 16) (cj := 7) (ds := [.null, .null, .null, .null, .null, .null, .null, .null, .null, .null, .int 0, .int 0, .int 0]) C tyX7 tyX7_ok inX7 rfl (by decide) wc_X8_16 wn_X7 wi_X7 (Nat.le_of_ble_eq_true rfl) (Nat.le_of_ble_eq_true rfl) dX8_init_16 (fun q2 => ?_)
  refine k_dup (pc := 19) C dX8_init_19 rfl ?_
  refine k_callE (pc := 20) (stk := [.ref q2, .ref h0]) (n := 0) (As := []) C (c_X7_init  (kW_in gl_last)) rfl rfl rfl wC_X7_init wI_X7_init wi_X7 wnm_X8_18 hy_X7_init (by decide) (Nat.le_of_ble_eq_true rfl) (Nat.le_of_ble_eq_true rfl) (Nat.le_of_ble_eq_true rfl) dX8_init_20 (fun u2 => ?_)
  refine k_putR (pc := 23) (i := 2) (T := TX8) (fs' := [.ref q1, .null, .ref q2, .null, .null, .null, .null, .null, .null, .null, .null, .null, .null, .int 0]) C hk tyX8 tyX8_ok nmX8 inX8 rfl (by decide) wf_X8_19 rfl rfl (tyX8_ok 2 (by decide)) rfl rfl (Nat.le_of_ble_eq_true rfl) rfl dX8_init_23 ?_
  refine k_aload_n (pc := 26) C dX8_init_26 rfl 0 rfl ?_
  refine k_new (pc := 27) (cj := 7) (ds := [.null, .null, .null, .null, .null, .null, .null, .null, .null, .null, .int 0, .int 0, .int 0]) C tyX7 tyX7_ok inX7 rfl (by decide) wc_X8_16 wn_X7 wi_X7 (Nat.le_of_ble_eq_true rfl) (Nat.le_of_ble_eq_true rfl) dX8_init_27 (fun q3 => ?_)
  refine k_dup (pc := 30) C dX8_init_30 rfl ?_
  refine k_callE (pc := 31) (stk := [.ref q3, .ref h0]) (n := 0) (As := []) C (c_X7_init  (kW_in gl_last)) rfl rfl rfl wC_X7_init wI_X7_init wi_X7 wnm_X8_18 hy_X7_init (by decide) (Nat.le_of_ble_eq_true rfl) (Nat.le_of_ble_eq_true rfl) (Nat.le_of_ble_eq_true rfl) dX8_init_31 (fun u3 => ?_)
  refine k_putR (pc := 34) (i := 3) (T := TX8) (fs' := [.ref q1, .null, .ref q2, .ref q3, .null, .null, .null, .null, .null, .null, .null, .null, .null, .int 0]) C hk tyX8 tyX8_ok nmX8 inX8 rfl (by decide) wf_X8_23 rfl rfl (tyX8_ok 3 (by decide)) rfl rfl (Nat.le_of_ble_eq_true rfl) rfl dX8_init_34 ?_
  refine k_aload_n (pc := 37) C dX8_init_37 rfl 0 rfl ?_
  refine k_new (pc := 38) (cj := 3) (ds := [.null, .null, .int 0, .int 0, .int 0, .int 0]) C tyX3 tyX3_ok inX3 rfl (by decide) wc_X8_26 wn_X3 wi_X3 (Nat.le_of_ble_eq_true rfl) (Nat.le_of_ble_eq_true rfl) dX8_init_38 (fun q4 => ?_)
  refine k_dup (pc := 41) C dX8_init_41 rfl ?_
  refine k_aload_n (pc := 42) C dX8_init_42 rfl 0 rfl ?_
  refine k_getR (pc := 43) (i := 0) (T := TX8) C hk inX8 rfl (by decide) wf_X8_10 rfl dX8_init_43 ?_
  refine k_aload_n (pc := 46) C dX8_init_46 rfl 0 rfl ?_
  refine k_getR (pc := 47) (i := 3) (T := TX8) C hk inX8 rfl (by decide) wf_X8_23 rfl dX8_init_47 ?_
  refine k_callE (pc := 50) (stk := [.ref q4, .ref h0]) (n := 2) (As := [.ref q1, .ref q3]) C (c_X3_init q1 q3 (kW_in gl_last)) rfl rfl rfl wC_X3_init wI_X3_init wi_X3 wnm_X8_28 hy_X3_init (by decide) (Nat.le_of_ble_eq_true rfl) (Nat.le_of_ble_eq_true rfl) (Nat.le_of_ble_eq_true rfl) dX8_init_50 (fun u4 => ?_)
  refine k_putR (pc := 53) (i := 1) (T := TX8) (fs' := [.ref q1, .ref q4, .ref q2, .ref q3, .null, .null, .null, .null, .null, .null, .null, .null, .null, .int 0]) C hk tyX8 tyX8_ok nmX8 inX8 rfl (by decide) wf_X8_31 rfl rfl (tyX8_ok 1 (by decide)) rfl rfl (Nat.le_of_ble_eq_true rfl) rfl dX8_init_53 ?_
  refine k_aload_n (pc := 56) C dX8_init_56 rfl 0 rfl ?_
  refine k_new (pc := 57) (cj := 5) (ds := [.null, .null, .null, .int 0, .int 0, .int 0, .int 0]) C tyX5 tyX5_ok inX5 rfl (by decide) wc_X8_35 wn_X5 wi_X5 (Nat.le_of_ble_eq_true rfl) (Nat.le_of_ble_eq_true rfl) dX8_init_57 (fun q5 => ?_)
  refine k_dup (pc := 60) C dX8_init_60 rfl ?_
  refine k_callE (pc := 61) (stk := [.ref q5, .ref h0]) (n := 0) (As := []) C (c_X5_init  (kW_in gl_last)) rfl rfl rfl wC_X5_init wI_X5_init wi_X5 wnm_X8_37 hy_X5_init (by decide) (Nat.le_of_ble_eq_true rfl) (Nat.le_of_ble_eq_true rfl) (Nat.le_of_ble_eq_true rfl) dX8_init_61 (fun u5 => ?_)
  refine k_putR (pc := 64) (i := 4) (T := TX8) (fs' := [.ref q1, .ref q4, .ref q2, .ref q3, .ref q5, .null, .null, .null, .null, .null, .null, .null, .null, .int 0]) C hk tyX8 tyX8_ok nmX8 inX8 rfl (by decide) wf_X8_38 rfl rfl (tyX8_ok 4 (by decide)) rfl rfl (Nat.le_of_ble_eq_true rfl) rfl dX8_init_64 ?_
  refine k_aload_n (pc := 67) C dX8_init_67 rfl 0 rfl ?_
  refine k_new (pc := 68) (cj := 5) (ds := [.null, .null, .null, .int 0, .int 0, .int 0, .int 0]) C tyX5 tyX5_ok inX5 rfl (by decide) wc_X8_35 wn_X5 wi_X5 (Nat.le_of_ble_eq_true rfl) (Nat.le_of_ble_eq_true rfl) dX8_init_68 (fun q6 => ?_)
  refine k_dup (pc := 71) C dX8_init_71 rfl ?_
  refine k_callE (pc := 72) (stk := [.ref q6, .ref h0]) (n := 0) (As := []) C (c_X5_init  (kW_in gl_last)) rfl rfl rfl wC_X5_init wI_X5_init wi_X5 wnm_X8_37 hy_X5_init (by decide) (Nat.le_of_ble_eq_true rfl) (Nat.le_of_ble_eq_true rfl) (Nat.le_of_ble_eq_true rfl) dX8_init_72 (fun u6 => ?_)
  refine k_putR (pc := 75) (i := 5) (T := TX8) (fs' := [.ref q1, .ref q4, .ref q2, .ref q3, .ref q5, .ref q6, .null, .null, .null, .null, .null, .null, .null, .int 0]) C hk tyX8 tyX8_ok nmX8 inX8 rfl (by decide) wf_X8_42 rfl rfl (tyX8_ok 5 (by decide)) rfl rfl (Nat.le_of_ble_eq_true rfl) rfl dX8_init_75 ?_
  refine k_aload_n (pc := 78) C dX8_init_78 rfl 0 rfl ?_
  refine k_new (pc := 79) (cj := 5) (ds := [.null, .null, .null, .int 0, .int 0, .int 0, .int 0]) C tyX5 tyX5_ok inX5 rfl (by decide) wc_X8_35 wn_X5 wi_X5 (Nat.le_of_ble_eq_true rfl) (Nat.le_of_ble_eq_true rfl) dX8_init_79 (fun q7 => ?_)
  refine k_dup (pc := 82) C dX8_init_82 rfl ?_
  refine k_callE (pc := 83) (stk := [.ref q7, .ref h0]) (n := 0) (As := []) C (c_X5_init  (kW_in gl_last)) rfl rfl rfl wC_X5_init wI_X5_init wi_X5 wnm_X8_37 hy_X5_init (by decide) (Nat.le_of_ble_eq_true rfl) (Nat.le_of_ble_eq_true rfl) (Nat.le_of_ble_eq_true rfl) dX8_init_83 (fun u7 => ?_)
  refine k_putR (pc := 86) (i := 6) (T := TX8) (fs' := [.ref q1, .ref q4, .ref q2, .ref q3, .ref q5, .ref q6, .ref q7, .null, .null, .null, .null, .null, .null, .int 0]) C hk tyX8 tyX8_ok nmX8 inX8 rfl (by decide) wf_X8_45 rfl rfl (tyX8_ok 6 (by decide)) rfl rfl (Nat.le_of_ble_eq_true rfl) rfl dX8_init_86 ?_
  refine k_aload_n (pc := 89) C dX8_init_89 rfl 0 rfl ?_
  refine k_iconst (pc := 90) C dX8_init_90 ic_iconst_2 ?_
  refine k_newZ (pc := 91) (N := 2) C (by decide) (by decide) (by decide) (Nat.le_of_ble_eq_true rfl) (Nat.le_of_ble_eq_true rfl) dX8_init_91 (fun q8 => ?_)
  refine k_putR (pc := 93) (i := 7) (T := TX8) (fs' := [.ref q1, .ref q4, .ref q2, .ref q3, .ref q5, .ref q6, .ref q7, .ref q8, .null, .null, .null, .null, .null, .int 0]) C hk tyX8 tyX8_ok nmX8 inX8 rfl (by decide) wf_X8_48 rfl rfl (tyX8_ok 7 (by decide)) rfl rfl (Nat.le_of_ble_eq_true rfl) rfl dX8_init_93 ?_
  refine k_aload_n (pc := 96) C dX8_init_96 rfl 0 rfl ?_
  refine k_new (pc := 97) (cj := 2) (ds := [.null, .null, .null, .null, .null, .int 0]) C tyX2 tyX2_ok inX2 rfl (by decide) wc_X8_52 wn_X2 wi_X2 (Nat.le_of_ble_eq_true rfl) (Nat.le_of_ble_eq_true rfl) dX8_init_97 (fun q9 => ?_)
  refine k_dup (pc := 100) C dX8_init_100 rfl ?_
  refine k_aload_n (pc := 101) C dX8_init_101 rfl 0 rfl ?_
  refine k_getR (pc := 102) (i := 2) (T := TX8) C hk inX8 rfl (by decide) wf_X8_19 rfl dX8_init_102 ?_
  refine k_aload_n (pc := 105) C dX8_init_105 rfl 0 rfl ?_
  refine k_getR (pc := 106) (i := 4) (T := TX8) C hk inX8 rfl (by decide) wf_X8_38 rfl dX8_init_106 ?_
  refine k_callE (pc := 109) (stk := [.ref q9, .ref h0]) (n := 2) (As := [.ref q2, .ref q5]) C (c_X2_init q2 q5 (kW_in gl_last)) rfl rfl rfl wC_X2_init wI_X2_init wi_X2 wnm_X8_54 hy_X2_init (by decide) (Nat.le_of_ble_eq_true rfl) (Nat.le_of_ble_eq_true rfl) (Nat.le_of_ble_eq_true rfl) dX8_init_109 (fun u8 => ?_)
  refine k_putR (pc := 112) (i := 8) (T := TX8) (fs' := [.ref q1, .ref q4, .ref q2, .ref q3, .ref q5, .ref q6, .ref q7, .ref q8, .ref q9, .null, .null, .null, .null, .int 0]) C hk tyX8 tyX8_ok nmX8 inX8 rfl (by decide) wf_X8_57 rfl rfl (tyX8_ok 8 (by decide)) rfl rfl (Nat.le_of_ble_eq_true rfl) rfl dX8_init_112 ?_
  refine k_aload_n (pc := 115) C dX8_init_115 rfl 0 rfl ?_
  refine k_new (pc := 116) (cj := 1) (ds := [.null, .null, .null, .null, .null, .null, .null, .null, .int 0]) C tyX1 tyX1_ok inX1 rfl (by decide) wc_X8_61 wn_X1 wi_X1 (Nat.le_of_ble_eq_true rfl) (Nat.le_of_ble_eq_true rfl) dX8_init_116 (fun q10 => ?_)
  refine k_dup (pc := 119) C dX8_init_119 rfl ?_
  refine k_aload_n (pc := 120) C dX8_init_120 rfl 0 rfl ?_
  refine k_getR (pc := 121) (i := 2) (T := TX8) C hk inX8 rfl (by decide) wf_X8_19 rfl dX8_init_121 ?_
  refine k_aload_n (pc := 124) C dX8_init_124 rfl 0 rfl ?_
  refine k_getR (pc := 125) (i := 8) (T := TX8) C hk inX8 rfl (by decide) wf_X8_57 rfl dX8_init_125 ?_
  refine k_callE (pc := 128) (stk := [.ref q10, .ref h0]) (n := 2) (As := [.ref q2, .ref q9]) C (c_X1_init q2 q9 (kW_in gl_last)) rfl rfl rfl wC_X1_init wI_X1_init wi_X1 wnm_X8_63 hy_X1_init (by decide) (Nat.le_of_ble_eq_true rfl) (Nat.le_of_ble_eq_true rfl) (Nat.le_of_ble_eq_true rfl) dX8_init_128 (fun u9 => ?_)
  refine k_putR (pc := 131) (i := 9) (T := TX8) (fs' := [.ref q1, .ref q4, .ref q2, .ref q3, .ref q5, .ref q6, .ref q7, .ref q8, .ref q9, .ref q10, .null, .null, .null, .int 0]) C hk tyX8 tyX8_ok nmX8 inX8 rfl (by decide) wf_X8_66 rfl rfl (tyX8_ok 9 (by decide)) rfl rfl (Nat.le_of_ble_eq_true rfl) rfl dX8_init_131 ?_
  refine k_aload_n (pc := 134) C dX8_init_134 rfl 0 rfl ?_
  refine k_new (pc := 135) (cj := 4) (ds := [.null, .null, .null, .null, .int 0]) C tyX4 tyX4_ok inX4 rfl (by decide) wc_X8_70 wn_X4 wi_X4 (Nat.le_of_ble_eq_true rfl) (Nat.le_of_ble_eq_true rfl) dX8_init_135 (fun q11 => ?_)
  refine k_dup (pc := 138) C dX8_init_138 rfl ?_
  refine k_aload_n (pc := 139) C dX8_init_139 rfl 0 rfl ?_
  refine k_getR (pc := 140) (i := 2) (T := TX8) C hk inX8 rfl (by decide) wf_X8_19 rfl dX8_init_140 ?_
  refine k_aload_n (pc := 143) C dX8_init_143 rfl 0 rfl ?_
  refine k_getR (pc := 144) (i := 8) (T := TX8) C hk inX8 rfl (by decide) wf_X8_57 rfl dX8_init_144 ?_
  refine k_callE (pc := 147) (stk := [.ref q11, .ref h0]) (n := 2) (As := [.ref q2, .ref q9]) C (c_X4_init q2 q9 (kW_in gl_last)) rfl rfl rfl wC_X4_init wI_X4_init wi_X4 wnm_X8_72 hy_X4_init (by decide) (Nat.le_of_ble_eq_true rfl) (Nat.le_of_ble_eq_true rfl) (Nat.le_of_ble_eq_true rfl) dX8_init_147 (fun u10 => ?_)
  refine k_putR (pc := 150) (i := 10) (T := TX8) (fs' := [.ref q1, .ref q4, .ref q2, .ref q3, .ref q5, .ref q6, .ref q7, .ref q8, .ref q9, .ref q10, .ref q11, .null, .null, .int 0]) C hk tyX8 tyX8_ok nmX8 inX8 rfl (by decide) wf_X8_73 rfl rfl (tyX8_ok 10 (by decide)) rfl rfl (Nat.le_of_ble_eq_true rfl) rfl dX8_init_150 ?_
  refine k_aload_n (pc := 153) C dX8_init_153 rfl 0 rfl ?_
  refine k_new (pc := 154) (cj := 0) (ds := [.null, .null, .null, .int 0]) C tyX0 tyX0_ok inX0 rfl (by decide) wc_X8_77 wn_X0 wi_X0 (Nat.le_of_ble_eq_true rfl) (Nat.le_of_ble_eq_true rfl) dX8_init_154 (fun q12 => ?_)
  refine k_dup (pc := 157) C dX8_init_157 rfl ?_
  refine k_aload_n (pc := 158) C dX8_init_158 rfl 0 rfl ?_
  refine k_getR (pc := 159) (i := 2) (T := TX8) C hk inX8 rfl (by decide) wf_X8_19 rfl dX8_init_159 ?_
  refine k_callE (pc := 162) (stk := [.ref q12, .ref h0]) (n := 1) (As := [.ref q2]) C (c_X0_init q2 (kW_in gl_last)) rfl rfl rfl wC_X0_init wI_X0_init wi_X0 wnm_X8_79 hy_X0_init (by decide) (Nat.le_of_ble_eq_true rfl) (Nat.le_of_ble_eq_true rfl) (Nat.le_of_ble_eq_true rfl) dX8_init_162 (fun u11 => ?_)
  refine k_putR (pc := 165) (i := 11) (T := TX8) (fs' := [.ref q1, .ref q4, .ref q2, .ref q3, .ref q5, .ref q6, .ref q7, .ref q8, .ref q9, .ref q10, .ref q11, .ref q12, .null, .int 0]) C hk tyX8 tyX8_ok nmX8 inX8 rfl (by decide) wf_X8_82 rfl rfl (tyX8_ok 11 (by decide)) rfl rfl (Nat.le_of_ble_eq_true rfl) rfl dX8_init_165 ?_
  refine k_aload_n (pc := 168) C dX8_init_168 rfl 0 rfl ?_
  refine k_bipush (pc := 169) C dX8_init_169 ic_bipush_10 ?_
  refine k_newI (pc := 171) (N := 10) C (by decide) (by decide) (by decide) (Nat.le_of_ble_eq_true rfl) (Nat.le_of_ble_eq_true rfl) dX8_init_171 (fun q13 => ?_)
  refine k_putR (pc := 173) (i := 12) (T := TX8) (fs' := [.ref q1, .ref q4, .ref q2, .ref q3, .ref q5, .ref q6, .ref q7, .ref q8, .ref q9, .ref q10, .ref q11, .ref q12, .ref q13, .int 0]) C hk tyX8 tyX8_ok nmX8 inX8 rfl (by decide) wf_X8_86 rfl rfl (tyX8_ok 12 (by decide)) rfl rfl (Nat.le_of_ble_eq_true rfl) rfl dX8_init_173 ?_
  refine k_aload_n (pc := 176) C dX8_init_176 rfl 0 rfl ?_
  refine k_iconst (pc := 177) C dX8_init_177 ic_iconst_m1 ?_
  refine k_putI (pc := 178) (i := 13) (T := TX8) (fs' := [.ref q1, .ref q4, .ref q2, .ref q3, .ref q5, .ref q6, .ref q7, .ref q8, .ref q9, .ref q10, .ref q11, .ref q12, .ref q13, .int (-1 : Int32)]) C hk tyX8 tyX8_ok nmX8 inX8 rfl (by decide) wf_X8_90 rfl (by decide +kernel) (Nat.le_of_ble_eq_true rfl) rfl dX8_init_178 ?_
  exact k_vret (pc := 181) C ((fun j => [q1, q2, q3, q4, q5, q6, q7, q8, q9, q10, q11, q12, q13].getD j 0), u1, u2, u3, u4, u5, u6, u7, u8, u9, u10, u11) rfl rfl dX8_init_181
