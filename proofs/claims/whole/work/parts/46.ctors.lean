theorem ic_bipush_13 : (Int8.ofInt (13)).toInt32 = (13 : Int32) := by decide
theorem ic_sipush_160 : (Int16.ofInt (160)).toInt32 = (160 : Int32) := by decide
theorem ic_sipush_13312 : (Int16.ofInt (13312)).toInt32 = (13312 : Int32) := by decide
def kf_X6  (u : Nat → Nat) : List Value := [.ref (u 0), .int 0]
def kl_X6 (CS : ClassId × ClassId × ClassId) (u : Nat → Nat) : va_W := (([] : va_W) ++ [((u 0), .inl (CS.1, 400, .inl fun _ => 0))])
theorem hy_X6_init : yX6_init.cls ≠ "java/lang/invoke/MethodHandle" ∧ yX6_init.cls ≠ "java/lang/invoke/VarHandle" ∧ (parseMethodDescriptor yX6_init.desc).map (fun d => d.parameters.length) = some 0 := by decide +kernel
set_option maxRecDepth 100000 in
set_option maxHeartbeats 4000000 in
theorem c_X6_init  {w0 : va_W} {k h0 : Nat} (hw : w0[k]? = some (h0, .inr (6, [.null, .int 0]))) : kCt (σ := Nat → Nat) yX6_init cX6_init 1 1 12 1 400 [.ref h0] w0 k h0 6 (kf_X6 ) kl_X6 := by
  have hk : k < w0.length := (List.getElem?_eq_some_iff.mp hw).1
  refine k_met (fs0 := [.null, .int 0]) (by decide +kernel) rfl (Nat.le_of_ble_eq_true rfl) hw (fun X C => ?_)
  show kG X _ 1 _ 0 0 [(0, .ref h0)] [] 0
  refine k_aload_n (pc := 0) C dX6_init_0 rfl 0 rfl ?_
  refine k_obj (pc := 1) C (by decide) (Nat.le_of_ble_eq_true rfl) wm_X6_3 dX6_init_1 ?_
  refine k_aload_n (pc := 4) C dX6_init_4 rfl 0 rfl ?_
  refine k_sipush (pc := 5) C dX6_init_5 ic_sipush_400 ?_
  refine k_newI (pc := 8) (N := 400) C (by decide) (by decide) (by decide) (Nat.le_of_ble_eq_true rfl) (Nat.le_of_ble_eq_true rfl) dX6_init_8 (fun q1 => ?_)
  refine k_putR (pc := 10) (i := 0) (T := TX6) (fs' := [.ref q1, .int 0]) C hk tyX6 tyX6_ok nmX6 inX6 rfl (by decide) wf_X6_9 rfl rfl (tyX6_ok 0 (by decide)) rfl rfl (Nat.le_of_ble_eq_true rfl) rfl dX6_init_10 ?_
  exact k_vret (pc := 13) C (fun j => [q1].getD j 0) rfl rfl dX6_init_13
def kf_X7  (u : Nat → Nat) : List Value := [.ref (u 0), .ref (u 1), .ref (u 2), .ref (u 3), .ref (u 4), .ref (u 5), .ref (u 6), .ref (u 7), .ref (u 8), .ref (u 9), .int 0, .int 0, .int 0]
def kl_X7 (CS : ClassId × ClassId × ClassId) (u : Nat → Nat) : va_W := ((((((((((([] : va_W) ++ [((u 0), .inl (CS.1, 10, .inl fun _ => 0))]) ++ [((u 1), .inl (CS.1, 10, .inl fun _ => 0))]) ++ [((u 2), .inl (CS.1, 10, .inl fun _ => 0))]) ++ [((u 3), .inl (CS.1, 10, .inl fun _ => 0))]) ++ [((u 4), .inl (CS.1, 10, .inl fun _ => 0))]) ++ [((u 5), .inl (CS.1, 10, .inl fun _ => 0))]) ++ [((u 6), .inl (CS.1, 10, .inl fun _ => 0))]) ++ [((u 7), .inl (CS.1, 8, .inl fun _ => 0))]) ++ [((u 8), .inl (CS.1, 8, .inl fun _ => 0))]) ++ [((u 9), .inl (CS.1, 8, .inl fun _ => 0))])
theorem hy_X7_init : yX7_init.cls ≠ "java/lang/invoke/MethodHandle" ∧ yX7_init.cls ≠ "java/lang/invoke/VarHandle" ∧ (parseMethodDescriptor yX7_init.desc).map (fun d => d.parameters.length) = some 0 := by decide +kernel
set_option maxRecDepth 100000 in
set_option maxHeartbeats 4000000 in
theorem c_X7_init  {w0 : va_W} {k h0 : Nat} (hw : w0[k]? = some (h0, .inr (7, [.null, .null, .null, .null, .null, .null, .null, .null, .null, .null, .int 0, .int 0, .int 0]))) : kCt (σ := Nat → Nat) yX7_init cX7_init 1 1 12 10 94 [.ref h0] w0 k h0 7 (kf_X7 ) kl_X7 := by
  have hk : k < w0.length := (List.getElem?_eq_some_iff.mp hw).1
  refine k_met (fs0 := [.null, .null, .null, .null, .null, .null, .null, .null, .null, .null, .int 0, .int 0, .int 0]) (by decide +kernel) rfl (Nat.le_of_ble_eq_true rfl) hw (fun X C => ?_)
  show kG X _ 1 _ 0 0 [(0, .ref h0)] [] 0
  refine k_aload_n (pc := 0) C dX7_init_0 rfl 0 rfl ?_
  refine k_obj (pc := 1) C (by decide) (Nat.le_of_ble_eq_true rfl) wm_X7_3 dX7_init_1 ?_
  refine k_aload_n (pc := 4) C dX7_init_4 rfl 0 rfl ?_
  refine k_bipush (pc := 5) C dX7_init_5 ic_bipush_10 ?_
  refine k_newI (pc := 7) (N := 10) C (by decide) (by decide) (by decide) (Nat.le_of_ble_eq_true rfl) (Nat.le_of_ble_eq_true rfl) dX7_init_7 (fun q1 => ?_)
  refine k_putR (pc := 9) (i := 0) (T := TX7) (fs' := [.ref q1, .null, .null, .null, .null, .null, .null, .null, .null, .null, .int 0, .int 0, .int 0]) C hk tyX7 tyX7_ok nmX7 inX7 rfl (by decide) wf_X7_9 rfl rfl (tyX7_ok 0 (by decide)) rfl rfl (Nat.le_of_ble_eq_true rfl) rfl dX7_init_9 ?_
  refine k_aload_n (pc := 12) C dX7_init_12 rfl 0 rfl ?_
  refine k_bipush (pc := 13) C dX7_init_13 ic_bipush_10 ?_
  refine k_newI (pc := 15) (N := 10) C (by decide) (by decide) (by decide) (Nat.le_of_ble_eq_true rfl) (Nat.le_of_ble_eq_true rfl) dX7_init_15 (fun q2 => ?_)
  refine k_putR (pc := 17) (i := 1) (T := TX7) (fs' := [.ref q1, .ref q2, .null, .null, .null, .null, .null, .null, .null, .null, .int 0, .int 0, .int 0]) C hk tyX7 tyX7_ok nmX7 inX7 rfl (by decide) wf_X7_15 rfl rfl (tyX7_ok 1 (by decide)) rfl rfl (Nat.le_of_ble_eq_true rfl) rfl dX7_init_17 ?_
  refine k_aload_n (pc := 20) C dX7_init_20 rfl 0 rfl ?_
  refine k_bipush (pc := 21) C dX7_init_21 ic_bipush_10 ?_
  refine k_newI (pc := 23) (N := 10) C (by decide) (by decide) (by decide) (Nat.le_of_ble_eq_true rfl) (Nat.le_of_ble_eq_true rfl) dX7_init_23 (fun q3 => ?_)
  refine k_putR (pc := 25) (i := 2) (T := TX7) (fs' := [.ref q1, .ref q2, .ref q3, .null, .null, .null, .null, .null, .null, .null, .int 0, .int 0, .int 0]) C hk tyX7 tyX7_ok nmX7 inX7 rfl (by decide) wf_X7_18 rfl rfl (tyX7_ok 2 (by decide)) rfl rfl (Nat.le_of_ble_eq_true rfl) rfl dX7_init_25 ?_
  refine k_aload_n (pc := 28) C dX7_init_28 rfl 0 rfl ?_
  refine k_bipush (pc := 29) C dX7_init_29 ic_bipush_10 ?_
  refine k_newI (pc := 31) (N := 10) C (by decide) (by decide) (by decide) (Nat.le_of_ble_eq_true rfl) (Nat.le_of_ble_eq_true rfl) dX7_init_31 (fun q4 => ?_)
  refine k_putR (pc := 33) (i := 3) (T := TX7) (fs' := [.ref q1, .ref q2, .ref q3, .ref q4, .null, .null, .null, .null, .null, .null, .int 0, .int 0, .int 0]) C hk tyX7 tyX7_ok nmX7 inX7 rfl (by decide) wf_X7_21 rfl rfl (tyX7_ok 3 (by decide)) rfl rfl (Nat.le_of_ble_eq_true rfl) rfl dX7_init_33 ?_
  refine k_aload_n (pc := 36) C dX7_init_36 rfl 0 rfl ?_
  refine k_bipush (pc := 37) C dX7_init_37 ic_bipush_10 ?_
  refine k_newI (pc := 39) (N := 10) C (by decide) (by decide) (by decide) (Nat.le_of_ble_eq_true rfl) (Nat.le_of_ble_eq_true rfl) dX7_init_39 (fun q5 => ?_)
  refine k_putR (pc := 41) (i := 4) (T := TX7) (fs' := [.ref q1, .ref q2, .ref q3, .ref q4, .ref q5, .null, .null, .null, .null, .null, .int 0, .int 0, .int 0]) C hk tyX7 tyX7_ok nmX7 inX7 rfl (by decide) wf_X7_24 rfl rfl (tyX7_ok 4 (by decide)) rfl rfl (Nat.le_of_ble_eq_true rfl) rfl dX7_init_41 ?_
  refine k_aload_n (pc := 44) C dX7_init_44 rfl 0 rfl ?_
  refine k_bipush (pc := 45) C dX7_init_45 ic_bipush_10 ?_
  refine k_newI (pc := 47) (N := 10) C (by decide) (by decide) (by decide) (Nat.le_of_ble_eq_true rfl) (Nat.le_of_ble_eq_true rfl) dX7_init_47 (fun q6 => ?_)
  refine k_putR (pc := 49) (i := 5) (T := TX7) (fs' := [.ref q1, .ref q2, .ref q3, .ref q4, .ref q5, .ref q6, .null, .null, .null, .null, .int 0, .int 0, .int 0]) C hk tyX7 tyX7_ok nmX7 inX7 rfl (by decide) wf_X7_27 rfl rfl (tyX7_ok 5 (by decide)) rfl rfl (Nat.le_of_ble_eq_true rfl) rfl dX7_init_49 ?_
  refine k_aload_n (pc := 52) C dX7_init_52 rfl 0 rfl ?_
  refine k_bipush (pc := 53) C dX7_init_53 ic_bipush_10 ?_
  refine k_newI (pc := 55) (N := 10) C (by decide) (by decide) (by decide) (Nat.le_of_ble_eq_true rfl) (Nat.le_of_ble_eq_true rfl) dX7_init_55 (fun q7 => ?_)
  refine k_putR (pc := 57) (i := 6) (T := TX7) (fs' := [.ref q1, .ref q2, .ref q3, .ref q4, .ref q5, .ref q6, .ref q7, .null, .null, .null, .int 0, .int 0, .int 0]) C hk tyX7 tyX7_ok nmX7 inX7 rfl (by decide) wf_X7_30 rfl rfl (tyX7_ok 6 (by decide)) rfl rfl (Nat.le_of_ble_eq_true rfl) rfl dX7_init_57 ?_
  refine k_aload_n (pc := 60) C dX7_init_60 rfl 0 rfl ?_
  refine k_bipush (pc := 61) C dX7_init_61 ic_bipush_8 ?_
  refine k_newI (pc := 63) (N := 8) C (by decide) (by decide) (by decide) (Nat.le_of_ble_eq_true rfl) (Nat.le_of_ble_eq_true rfl) dX7_init_63 (fun q8 => ?_)
  refine k_putR (pc := 65) (i := 7) (T := TX7) (fs' := [.ref q1, .ref q2, .ref q3, .ref q4, .ref q5, .ref q6, .ref q7, .ref q8, .null, .null, .int 0, .int 0, .int 0]) C hk tyX7 tyX7_ok nmX7 inX7 rfl (by decide) wf_X7_33 rfl rfl (tyX7_ok 7 (by decide)) rfl rfl (Nat.le_of_ble_eq_true rfl) rfl dX7_init_65 ?_
  refine k_aload_n (pc := 68) C dX7_init_68 rfl 0 rfl ?_
  refine k_bipush (pc := 69) C dX7_init_69 ic_bipush_8 ?_
  refine k_newI (pc := 71) (N := 8) C (by decide) (by decide) (by decide) (Nat.le_of_ble_eq_true rfl) (Nat.le_of_ble_eq_true rfl) dX7_init_71 (fun q9 => ?_)
  refine k_putR (pc := 73) (i := 8) (T := TX7) (fs' := [.ref q1, .ref q2, .ref q3, .ref q4, .ref q5, .ref q6, .ref q7, .ref q8, .ref q9, .null, .int 0, .int 0, .int 0]) C hk tyX7 tyX7_ok nmX7 inX7 rfl (by decide) wf_X7_36 rfl rfl (tyX7_ok 8 (by decide)) rfl rfl (Nat.le_of_ble_eq_true rfl) rfl dX7_init_73 ?_
  refine k_aload_n (pc := 76) C dX7_init_76 rfl 0 rfl ?_
  refine k_bipush (pc := 77) C dX7_init_77 ic_bipush_8 ?_
  refine k_newI (pc := 79) (N := 8) C (by decide) (by decide) (by decide) (Nat.le_of_ble_eq_true rfl) (Nat.le_of_ble_eq_true rfl) dX7_init_79 (fun q10 => ?_)
  refine k_putR (pc := 81) (i := 9) (T := TX7) (fs' := [.ref q1, .ref q2, .ref q3, .ref q4, .ref q5, .ref q6, .ref q7, .ref q8, .ref q9, .ref q10, .int 0, .int 0, .int 0]) C hk tyX7 tyX7_ok nmX7 inX7 rfl (by decide) wf_X7_39 rfl rfl (tyX7_ok 9 (by decide)) rfl rfl (Nat.le_of_ble_eq_true rfl) rfl dX7_init_81 ?_
  exact k_vret (pc := 84) C (fun j => [q1, q2, q3, q4, q5, q6, q7, q8, q9, q10].getD j 0) rfl rfl dX7_init_84
def kf_X3 (p0 : Nat) (p1 : Nat) (u : Nat → Nat) : List Value := [.ref p0, .ref p1, .int 0, .int 0, .int 0, .int (-1 : Int32)]
def kl_X3 (CS : ClassId × ClassId × ClassId) (u : Nat → Nat) : va_W := ([] : va_W)
theorem hy_X3_init : yX3_init.cls ≠ "java/lang/invoke/MethodHandle" ∧ yX3_init.cls ≠ "java/lang/invoke/VarHandle" ∧ (parseMethodDescriptor yX3_init.desc).map (fun d => d.parameters.length) = some 2 := by decide +kernel
set_option maxRecDepth 100000 in
set_option maxHeartbeats 4000000 in
theorem c_X3_init (p0 : Nat) (p1 : Nat) {w0 : va_W} {k h0 : Nat} (hw : w0[k]? = some (h0, .inr (3, [.null, .null, .int 0, .int 0, .int 0, .int 0]))) : kCt (σ := Nat → Nat) yX3_init cX3_init 3 1 12 0 0 [.ref h0, .ref p0, .ref p1] w0 k h0 3 (kf_X3 p0 p1) kl_X3 := by
  have hk : k < w0.length := (List.getElem?_eq_some_iff.mp hw).1
  refine k_met (fs0 := [.null, .null, .int 0, .int 0, .int 0, .int 0]) (by decide +kernel) rfl (Nat.le_of_ble_eq_true rfl) hw (fun X C => ?_)
  show kG X _ 3 _ 0 0 [(0, .ref h0), (1, .ref p0), (2, .ref p1)] [] 0
  refine k_aload_n (pc := 0) C dX3_init_0 rfl 0 rfl ?_
  refine k_obj (pc := 1) C (by decide) (Nat.le_of_ble_eq_true rfl) wm_X3_3 dX3_init_1 ?_
  refine k_aload_n (pc := 4) C dX3_init_4 rfl 0 rfl ?_
  refine k_aload_n (pc := 5) C dX3_init_5 rfl 1 rfl ?_
  refine k_putR (pc := 6) (i := 0) (T := TX3) (fs' := [.ref p0, .null, .int 0, .int 0, .int 0, .int 0]) C hk tyX3 tyX3_ok nmX3 inX3 rfl (by decide) wf_X3_9 rfl rfl (tyX3_ok 0 (by decide)) rfl rfl (Nat.le_of_ble_eq_true rfl) rfl dX3_init_6 ?_
  refine k_aload_n (pc := 9) C dX3_init_9 rfl 0 rfl ?_
  refine k_aload_n (pc := 10) C dX3_init_10 rfl 2 rfl ?_
  refine k_putR (pc := 11) (i := 1) (T := TX3) (fs' := [.ref p0, .ref p1, .int 0, .int 0, .int 0, .int 0]) C hk tyX3 tyX3_ok nmX3 inX3 rfl (by decide) wf_X3_15 rfl rfl (tyX3_ok 1 (by decide)) rfl rfl (Nat.le_of_ble_eq_true rfl) rfl dX3_init_11 ?_
  refine k_aload_n (pc := 14) C dX3_init_14 rfl 0 rfl ?_
  refine k_iconst (pc := 15) C dX3_init_15 ic_iconst_m1 ?_
  refine k_putI (pc := 16) (i := 5) (T := TX3) (fs' := [.ref p0, .ref p1, .int 0, .int 0, .int 0, .int (-1 : Int32)]) C hk tyX3 tyX3_ok nmX3 inX3 rfl (by decide) wf_X3_19 rfl (by decide +kernel) (Nat.le_of_ble_eq_true rfl) rfl dX3_init_16 ?_
  exact k_vret (pc := 19) C (fun _ => 0) rfl rfl dX3_init_19
def kf_X5  (u : Nat → Nat) : List Value := [.ref (u 0), .ref (u 1), .ref (u 2), .int 0, .int 0, .int 0, .int 0]
def kl_X5 (CS : ClassId × ClassId × ClassId) (u : Nat → Nat) : va_W := (((([] : va_W) ++ [((u 0), .inl (CS.1, 10, .inl fun _ => 0))]) ++ [((u 1), .inl (CS.1, 10, .inl fun _ => 0))]) ++ [((u 2), .inl (CS.1, 10, .inl fun _ => 0))])
theorem hy_X5_init : yX5_init.cls ≠ "java/lang/invoke/MethodHandle" ∧ yX5_init.cls ≠ "java/lang/invoke/VarHandle" ∧ (parseMethodDescriptor yX5_init.desc).map (fun d => d.parameters.length) = some 0 := by decide +kernel
set_option maxRecDepth 100000 in
set_option maxHeartbeats 4000000 in
theorem c_X5_init  {w0 : va_W} {k h0 : Nat} (hw : w0[k]? = some (h0, .inr (5, [.null, .null, .null, .int 0, .int 0, .int 0, .int 0]))) : kCt (σ := Nat → Nat) yX5_init cX5_init 1 1 12 3 30 [.ref h0] w0 k h0 5 (kf_X5 ) kl_X5 := by
  have hk : k < w0.length := (List.getElem?_eq_some_iff.mp hw).1
  refine k_met (fs0 := [.null, .null, .null, .int 0, .int 0, .int 0, .int 0]) (by decide +kernel) rfl (Nat.le_of_ble_eq_true rfl) hw (fun X C => ?_)
  show kG X _ 1 _ 0 0 [(0, .ref h0)] [] 0
  refine k_aload_n (pc := 0) C dX5_init_0 rfl 0 rfl ?_
  refine k_obj (pc := 1) C (by decide) (Nat.le_of_ble_eq_true rfl) wm_X5_3 dX5_init_1 ?_
  refine k_aload_n (pc := 4) C dX5_init_4 rfl 0 rfl ?_
  refine k_bipush (pc := 5) C dX5_init_5 ic_bipush_10 ?_
  refine k_newI (pc := 7) (N := 10) C (by decide) (by decide) (by decide) (Nat.le_of_ble_eq_true rfl) (Nat.le_of_ble_eq_true rfl) dX5_init_7 (fun q1 => ?_)
  refine k_putR (pc := 9) (i := 0) (T := TX5) (fs' := [.ref q1, .null, .null, .int 0, .int 0, .int 0, .int 0]) C hk tyX5 tyX5_ok nmX5 inX5 rfl (by decide) wf_X5_9 rfl rfl (tyX5_ok 0 (by decide)) rfl rfl (Nat.le_of_ble_eq_true rfl) rfl dX5_init_9 ?_
  refine k_aload_n (pc := 12) C dX5_init_12 rfl 0 rfl ?_
  refine k_bipush (pc := 13) C dX5_init_13 ic_bipush_10 ?_
  refine k_newI (pc := 15) (N := 10) C (by decide) (by decide) (by decide) (Nat.le_of_ble_eq_true rfl) (Nat.le_of_ble_eq_true rfl) dX5_init_15 (fun q2 => ?_)
  refine k_putR (pc := 17) (i := 1) (T := TX5) (fs' := [.ref q1, .ref q2, .null, .int 0, .int 0, .int 0, .int 0]) C hk tyX5 tyX5_ok nmX5 inX5 rfl (by decide) wf_X5_15 rfl rfl (tyX5_ok 1 (by decide)) rfl rfl (Nat.le_of_ble_eq_true rfl) rfl dX5_init_17 ?_
  refine k_aload_n (pc := 20) C dX5_init_20 rfl 0 rfl ?_
  refine k_bipush (pc := 21) C dX5_init_21 ic_bipush_10 ?_
  refine k_newI (pc := 23) (N := 10) C (by decide) (by decide) (by decide) (Nat.le_of_ble_eq_true rfl) (Nat.le_of_ble_eq_true rfl) dX5_init_23 (fun q3 => ?_)
  refine k_putR (pc := 25) (i := 2) (T := TX5) (fs' := [.ref q1, .ref q2, .ref q3, .int 0, .int 0, .int 0, .int 0]) C hk tyX5 tyX5_ok nmX5 inX5 rfl (by decide) wf_X5_18 rfl rfl (tyX5_ok 2 (by decide)) rfl rfl (Nat.le_of_ble_eq_true rfl) rfl dX5_init_25 ?_
  exact k_vret (pc := 28) C (fun j => [q1, q2, q3].getD j 0) rfl rfl dX5_init_28
def kf_X2 (p0 : Nat) (p1 : Nat) (u : Nat → Nat) : List Value := [.ref p0, .ref p1, .ref (u 0), .ref (u 1), .ref (u 2), .int 0]
def kl_X2 (CS : ClassId × ClassId × ClassId) (u : Nat → Nat) : va_W := (((([] : va_W) ++ [((u 0), .inl (CS.1, 36, .inl fun _ => 0))]) ++ [((u 1), .inl (CS.1, 36, .inl fun _ => 0))]) ++ [((u 2), .inl (CS.1, 36, .inl fun _ => 0))])
theorem hy_X2_init : yX2_init.cls ≠ "java/lang/invoke/MethodHandle" ∧ yX2_init.cls ≠ "java/lang/invoke/VarHandle" ∧ (parseMethodDescriptor yX2_init.desc).map (fun d => d.parameters.length) = some 2 := by decide +kernel
set_option maxRecDepth 100000 in
set_option maxHeartbeats 4000000 in
theorem c_X2_init (p0 : Nat) (p1 : Nat) {w0 : va_W} {k h0 : Nat} (hw : w0[k]? = some (h0, .inr (2, [.null, .null, .null, .null, .null, .int 0]))) : kCt (σ := Nat → Nat) yX2_init cX2_init 3 1 12 3 108 [.ref h0, .ref p0, .ref p1] w0 k h0 2 (kf_X2 p0 p1) kl_X2 := by
  have hk : k < w0.length := (List.getElem?_eq_some_iff.mp hw).1
  refine k_met (fs0 := [.null, .null, .null, .null, .null, .int 0]) (by decide +kernel) rfl (Nat.le_of_ble_eq_true rfl) hw (fun X C => ?_)
  show kG X _ 3 _ 0 0 [(0, .ref h0), (1, .ref p0), (2, .ref p1)] [] 0
  refine k_aload_n (pc := 0) C dX2_init_0 rfl 0 rfl ?_
  refine k_obj (pc := 1) C (by decide) (Nat.le_of_ble_eq_true rfl) wm_X2_3 dX2_init_1 ?_
  refine k_aload_n (pc := 4) C dX2_init_4 rfl 0 rfl ?_
  refine k_bipush (pc := 5) C dX2_init_5 ic_bipush_36 ?_
  refine k_newI (pc := 7) (N := 36) C (by decide) (by decide) (by decide) (Nat.le_of_ble_eq_true rfl) (Nat.le_of_ble_eq_true rfl) dX2_init_7 (fun q1 => ?_)
  refine k_putR (pc := 9) (i := 2) (T := TX2) (fs' := [.null, .null, .ref q1, .null, .null, .int 0]) C hk tyX2 tyX2_ok nmX2 inX2 rfl (by decide) wf_X2_11 rfl rfl (tyX2_ok 2 (by decide)) rfl rfl (Nat.le_of_ble_eq_true rfl) rfl dX2_init_9 ?_
  refine k_aload_n (pc := 12) C dX2_init_12 rfl 0 rfl ?_
  refine k_bipush (pc := 13) C dX2_init_13 ic_bipush_36 ?_
  refine k_newI (pc := 15) (N := 36) C (by decide) (by decide) (by decide) (Nat.le_of_ble_eq_true rfl) (Nat.le_of_ble_eq_true rfl) dX2_init_15 (fun q2 => ?_)
  refine k_putR (pc := 17) (i := 3) (T := TX2) (fs' := [.null, .null, .ref q1, .ref q2, .null, .int 0]) C hk tyX2 tyX2_ok nmX2 inX2 rfl (by decide) wf_X2_15 rfl rfl (tyX2_ok 3 (by decide)) rfl rfl (Nat.le_of_ble_eq_true rfl) rfl dX2_init_17 ?_
  refine k_aload_n (pc := 20) C dX2_init_20 rfl 0 rfl ?_
  refine k_bipush (pc := 21) C dX2_init_21 ic_bipush_36 ?_
  refine k_newI (pc := 23) (N := 36) C (by decide) (by decide) (by decide) (Nat.le_of_ble_eq_true rfl) (Nat.le_of_ble_eq_true rfl) dX2_init_23 (fun q3 => ?_)
  refine k_putR (pc := 25) (i := 4) (T := TX2) (fs' := [.null, .null, .ref q1, .ref q2, .ref q3, .int 0]) C hk tyX2 tyX2_ok nmX2 inX2 rfl (by decide) wf_X2_18 rfl rfl (tyX2_ok 4 (by decide)) rfl rfl (Nat.le_of_ble_eq_true rfl) rfl dX2_init_25 ?_
  refine k_aload_n (pc := 28) C dX2_init_28 rfl 0 rfl ?_
  refine k_aload_n (pc := 29) C dX2_init_29 rfl 1 rfl ?_
  refine k_putR (pc := 30) (i := 0) (T := TX2) (fs' := [.ref p0, .null, .ref q1, .ref q2, .ref q3, .int 0]) C hk tyX2 tyX2_ok nmX2 inX2 rfl (by decide) wf_X2_21 rfl rfl (tyX2_ok 0 (by decide)) rfl rfl (Nat.le_of_ble_eq_true rfl) rfl dX2_init_30 ?_
  refine k_aload_n (pc := 33) C dX2_init_33 rfl 0 rfl ?_
  refine k_aload_n (pc := 34) C dX2_init_34 rfl 2 rfl ?_
  refine k_putR (pc := 35) (i := 1) (T := TX2) (fs' := [.ref p0, .ref p1, .ref q1, .ref q2, .ref q3, .int 0]) C hk tyX2 tyX2_ok nmX2 inX2 rfl (by decide) wf_X2_25 rfl rfl (tyX2_ok 1 (by decide)) rfl rfl (Nat.le_of_ble_eq_true rfl) rfl dX2_init_35 ?_
  exact k_vret (pc := 38) C (fun j => [q1, q2, q3].getD j 0) rfl rfl dX2_init_38
def kf_X1 (p0 : Nat) (p1 : Nat) (u : ((Nat → Nat) × (Nat → Nat) × (Nat → Nat) × (Nat → Nat))) : List Value := [.ref p0, .ref p1, .ref (u.1 0), .ref (u.1 1), .ref (u.1 2), .ref (u.1 3), .ref (u.1 4), .ref (u.1 5), .int 0]
def kl_X1 (CS : ClassId × ClassId × ClassId) (u : ((Nat → Nat) × (Nat → Nat) × (Nat → Nat) × (Nat → Nat))) : va_W := ((((((([] : va_W) ++ [((u.1 0), .inl (CS.1, 13, .inl fun _ => 0))]) ++ ([((u.1 1), .inl (CS.2.2, 13, .inr (.inr (.inr (.inr (fun i => if i < 13 then some ((u.2.1) i) else none))))))] ++ (List.range 13).map (fun i => ((u.2.1) i, .inl (CS.1, 64, .inl fun _ => 0))))) ++ ([((u.1 2), .inl (CS.2.2, 13, .inr (.inr (.inr (.inr (fun i => if i < 13 then some ((u.2.2.1) i) else none))))))] ++ (List.range 13).map (fun i => ((u.2.2.1) i, .inl (CS.1, 64, .inl fun _ => 0))))) ++ ([((u.1 3), .inl (CS.2.2, 12, .inr (.inr (.inr (.inr (fun i => if i < 12 then some ((u.2.2.2) i) else none))))))] ++ (List.range 12).map (fun i => ((u.2.2.2) i, .inl (CS.1, 64, .inl fun _ => 0))))) ++ [((u.1 4), .inl (CS.1, 12, .inl fun _ => 0))]) ++ [((u.1 5), .inl (CS.1, 8, .inl fun _ => 0))])
theorem hy_X1_init : yX1_init.cls ≠ "java/lang/invoke/MethodHandle" ∧ yX1_init.cls ≠ "java/lang/invoke/VarHandle" ∧ (parseMethodDescriptor yX1_init.desc).map (fun d => d.parameters.length) = some 2 := by decide +kernel
set_option maxRecDepth 100000 in
set_option maxHeartbeats 4000000 in
theorem c_X1_init (p0 : Nat) (p1 : Nat) {w0 : va_W} {k h0 : Nat} (hw : w0[k]? = some (h0, .inr (1, [.null, .null, .null, .null, .null, .null, .null, .null, .int 0]))) : kCt (σ := ((Nat → Nat) × (Nat → Nat) × (Nat → Nat) × (Nat → Nat))) yX1_init cX1_init 3 1 12 44 2503 [.ref h0, .ref p0, .ref p1] w0 k h0 1 (kf_X1 p0 p1) kl_X1 := by
  have hk : k < w0.length := (List.getElem?_eq_some_iff.mp hw).1
  refine k_met (fs0 := [.null, .null, .null, .null, .null, .null, .null, .null, .int 0]) (by decide +kernel) rfl (Nat.le_of_ble_eq_true rfl) hw (fun X C => ?_)
  show kG X _ 3 _ 0 0 [(0, .ref h0), (1, .ref p0), (2, .ref p1)] [] 0
  refine k_aload_n (pc := 0) C dX1_init_0 rfl 0 rfl ?_
  refine k_obj (pc := 1) C (by decide) (Nat.le_of_ble_eq_true rfl) wm_X1_3 dX1_init_1 ?_
  refine k_aload_n (pc := 4) C dX1_init_4 rfl 0 rfl ?_
  refine k_bipush (pc := 5) C dX1_init_5 ic_bipush_13 ?_
  refine k_newI (pc := 7) (N := 13) C (by decide) (by decide) (by decide) (Nat.le_of_ble_eq_true rfl) (Nat.le_of_ble_eq_true rfl) dX1_init_7 (fun q1 => ?_)
  refine k_putR (pc := 9) (i := 2) (T := TX1) (fs' := [.null, .null, .ref q1, .null, .null, .null, .null, .null, .int 0]) C hk tyX1 tyX1_ok nmX1 inX1 rfl (by decide) wf_X1_9 rfl rfl (tyX1_ok 2 (by decide)) rfl rfl (Nat.le_of_ble_eq_true rfl) rfl dX1_init_9 ?_
  refine k_aload_n (pc := 12) C dX1_init_12 rfl 0 rfl ?_
  refine k_bipush (pc := 13) C dX1_init_13 ic_bipush_13 ?_
  refine k_bipush (pc := 15) C dX1_init_15 ic_bipush_64 ?_
  refine k_mna (pc := 17) (N := 13) (P := 64) C (by decide) (by decide) (by decide) (by decide) (by decide) (by decide) (by decide) (Nat.le_of_ble_eq_true rfl) (Nat.le_of_ble_eq_true rfl) wc_X1_15 dX1_init_17 (fun q2 r2 => ?_)
  refine k_putR (pc := 21) (i := 3) (T := TX1) (fs' := [.null, .null, .ref q1, .ref q2, .null, .null, .null, .null, .int 0]) C hk tyX1 tyX1_ok nmX1 inX1 rfl (by decide) wf_X1_17 rfl rfl (tyX1_ok 3 (by decide)) rfl rfl (Nat.le_of_ble_eq_true rfl) rfl dX1_init_21 ?_
  refine k_aload_n (pc := 24) C dX1_init_24 rfl 0 rfl ?_
  refine k_bipush (pc := 25) C dX1_init_25 ic_bipush_13 ?_
  refine k_bipush (pc := 27) C dX1_init_27 ic_bipush_64 ?_
  refine k_mna (pc := 29) (N := 13) (P := 64) C (by decide) (by decide) (by decide) (by decide) (by decide) (by decide) (by decide) (Nat.le_of_ble_eq_true rfl) (Nat.le_of_ble_eq_true rfl) wc_X1_15 dX1_init_29 (fun q3 r3 => ?_)
  refine k_putR (pc := 33) (i := 4) (T := TX1) (fs' := [.null, .null, .ref q1, .ref q2, .ref q3, .null, .null, .null, .int 0]) C hk tyX1 tyX1_ok nmX1 inX1 rfl (by decide) wf_X1_20 rfl rfl (tyX1_ok 4 (by decide)) rfl rfl (Nat.le_of_ble_eq_true rfl) rfl dX1_init_33 ?_
  refine k_aload_n (pc := 36) C dX1_init_36 rfl 0 rfl ?_
  refine k_bipush (pc := 37) C dX1_init_37 ic_bipush_12 ?_
  refine k_bipush (pc := 39) C dX1_init_39 ic_bipush_64 ?_
  refine k_mna (pc := 41) (N := 12) (P := 64) C (by decide) (by decide) (by decide) (by decide) (by decide) (by decide) (by decide) (Nat.le_of_ble_eq_true rfl) (Nat.le_of_ble_eq_true rfl) wc_X1_15 dX1_init_41 (fun q4 r4 => ?_)
  refine k_putR (pc := 45) (i := 5) (T := TX1) (fs' := [.null, .null, .ref q1, .ref q2, .ref q3, .ref q4, .null, .null, .int 0]) C hk tyX1 tyX1_ok nmX1 inX1 rfl (by decide) wf_X1_23 rfl rfl (tyX1_ok 5 (by decide)) rfl rfl (Nat.le_of_ble_eq_true rfl) rfl dX1_init_45 ?_
  refine k_aload_n (pc := 48) C dX1_init_48 rfl 0 rfl ?_
  refine k_bipush (pc := 49) C dX1_init_49 ic_bipush_12 ?_
  refine k_newI (pc := 51) (N := 12) C (by decide) (by decide) (by decide) (Nat.le_of_ble_eq_true rfl) (Nat.le_of_ble_eq_true rfl) dX1_init_51 (fun q5 => ?_)
  refine k_putR (pc := 53) (i := 6) (T := TX1) (fs' := [.null, .null, .ref q1, .ref q2, .ref q3, .ref q4, .ref q5, .null, .int 0]) C hk tyX1 tyX1_ok nmX1 inX1 rfl (by decide) wf_X1_26 rfl rfl (tyX1_ok 6 (by decide)) rfl rfl (Nat.le_of_ble_eq_true rfl) rfl dX1_init_53 ?_
  refine k_aload_n (pc := 56) C dX1_init_56 rfl 0 rfl ?_
  refine k_bipush (pc := 57) C dX1_init_57 ic_bipush_8 ?_
  refine k_newI (pc := 59) (N := 8) C (by decide) (by decide) (by decide) (Nat.le_of_ble_eq_true rfl) (Nat.le_of_ble_eq_true rfl) dX1_init_59 (fun q6 => ?_)
  refine k_putR (pc := 61) (i := 7) (T := TX1) (fs' := [.null, .null, .ref q1, .ref q2, .ref q3, .ref q4, .ref q5, .ref q6, .int 0]) C hk tyX1 tyX1_ok nmX1 inX1 rfl (by decide) wf_X1_29 rfl rfl (tyX1_ok 7 (by decide)) rfl rfl (Nat.le_of_ble_eq_true rfl) rfl dX1_init_61 ?_
  refine k_aload_n (pc := 64) C dX1_init_64 rfl 0 rfl ?_
  refine k_aload_n (pc := 65) C dX1_init_65 rfl 1 rfl ?_
  refine k_putR (pc := 66) (i := 0) (T := TX1) (fs' := [.ref p0, .null, .ref q1, .ref q2, .ref q3, .ref q4, .ref q5, .ref q6, .int 0]) C hk tyX1 tyX1_ok nmX1 inX1 rfl (by decide) wf_X1_32 rfl rfl (tyX1_ok 0 (by decide)) rfl rfl (Nat.le_of_ble_eq_true rfl) rfl dX1_init_66 ?_
  refine k_aload_n (pc := 69) C dX1_init_69 rfl 0 rfl ?_
  refine k_aload_n (pc := 70) C dX1_init_70 rfl 2 rfl ?_
  refine k_putR (pc := 71) (i := 1) (T := TX1) (fs' := [.ref p0, .ref p1, .ref q1, .ref q2, .ref q3, .ref q4, .ref q5, .ref q6, .int 0]) C hk tyX1 tyX1_ok nmX1 inX1 rfl (by decide) wf_X1_36 rfl rfl (tyX1_ok 1 (by decide)) rfl rfl (Nat.le_of_ble_eq_true rfl) rfl dX1_init_71 ?_
  exact k_vret (pc := 74) C ((fun j => [q1, q2, q3, q4, q5, q6].getD j 0), r2, r3, r4) rfl rfl dX1_init_74
def kf_X4 (p0 : Nat) (p1 : Nat) (u : Nat → Nat) : List Value := [.ref p0, .ref p1, .ref (u 0), .ref (u 1), .int 0]
def kl_X4 (CS : ClassId × ClassId × ClassId) (u : Nat → Nat) : va_W := ((([] : va_W) ++ [((u 0), .inl (CS.1, 20, .inl fun _ => 0))]) ++ [((u 1), .inl (CS.1, 20, .inl fun _ => 0))])
theorem hy_X4_init : yX4_init.cls ≠ "java/lang/invoke/MethodHandle" ∧ yX4_init.cls ≠ "java/lang/invoke/VarHandle" ∧ (parseMethodDescriptor yX4_init.desc).map (fun d => d.parameters.length) = some 2 := by decide +kernel
set_option maxRecDepth 100000 in
set_option maxHeartbeats 4000000 in
theorem c_X4_init (p0 : Nat) (p1 : Nat) {w0 : va_W} {k h0 : Nat} (hw : w0[k]? = some (h0, .inr (4, [.null, .null, .null, .null, .int 0]))) : kCt (σ := Nat → Nat) yX4_init cX4_init 3 1 12 2 40 [.ref h0, .ref p0, .ref p1] w0 k h0 4 (kf_X4 p0 p1) kl_X4 := by
  have hk : k < w0.length := (List.getElem?_eq_some_iff.mp hw).1
  refine k_met (fs0 := [.null, .null, .null, .null, .int 0]) (by decide +kernel) rfl (Nat.le_of_ble_eq_true rfl) hw (fun X C => ?_)
  show kG X _ 3 _ 0 0 [(0, .ref h0), (1, .ref p0), (2, .ref p1)] [] 0
  refine k_aload_n (pc := 0) C dX4_init_0 rfl 0 rfl ?_
  refine k_obj (pc := 1) C (by decide) (Nat.le_of_ble_eq_true rfl) wm_X4_3 dX4_init_1 ?_
  refine k_aload_n (pc := 4) C dX4_init_4 rfl 0 rfl ?_
  refine k_bipush (pc := 5) C dX4_init_5 ic_bipush_20 ?_
  refine k_newI (pc := 7) (N := 20) C (by decide) (by decide) (by decide) (Nat.le_of_ble_eq_true rfl) (Nat.le_of_ble_eq_true rfl) dX4_init_7 (fun q1 => ?_)
  refine k_putR (pc := 9) (i := 2) (T := TX4) (fs' := [.null, .null, .ref q1, .null, .int 0]) C hk tyX4 tyX4_ok nmX4 inX4 rfl (by decide) wf_X4_9 rfl rfl (tyX4_ok 2 (by decide)) rfl rfl (Nat.le_of_ble_eq_true rfl) rfl dX4_init_9 ?_
  refine k_aload_n (pc := 12) C dX4_init_12 rfl 0 rfl ?_
  refine k_bipush (pc := 13) C dX4_init_13 ic_bipush_20 ?_
  refine k_newI (pc := 15) (N := 20) C (by decide) (by decide) (by decide) (Nat.le_of_ble_eq_true rfl) (Nat.le_of_ble_eq_true rfl) dX4_init_15 (fun q2 => ?_)
  refine k_putR (pc := 17) (i := 3) (T := TX4) (fs' := [.null, .null, .ref q1, .ref q2, .int 0]) C hk tyX4 tyX4_ok nmX4 inX4 rfl (by decide) wf_X4_15 rfl rfl (tyX4_ok 3 (by decide)) rfl rfl (Nat.le_of_ble_eq_true rfl) rfl dX4_init_17 ?_
  refine k_aload_n (pc := 20) C dX4_init_20 rfl 0 rfl ?_
  refine k_aload_n (pc := 21) C dX4_init_21 rfl 1 rfl ?_
  refine k_putR (pc := 22) (i := 0) (T := TX4) (fs' := [.ref p0, .null, .ref q1, .ref q2, .int 0]) C hk tyX4 tyX4_ok nmX4 inX4 rfl (by decide) wf_X4_18 rfl rfl (tyX4_ok 0 (by decide)) rfl rfl (Nat.le_of_ble_eq_true rfl) rfl dX4_init_22 ?_
  refine k_aload_n (pc := 25) C dX4_init_25 rfl 0 rfl ?_
  refine k_aload_n (pc := 26) C dX4_init_26 rfl 2 rfl ?_
  refine k_putR (pc := 27) (i := 1) (T := TX4) (fs' := [.ref p0, .ref p1, .ref q1, .ref q2, .int 0]) C hk tyX4 tyX4_ok nmX4 inX4 rfl (by decide) wf_X4_22 rfl rfl (tyX4_ok 1 (by decide)) rfl rfl (Nat.le_of_ble_eq_true rfl) rfl dX4_init_27 ?_
  exact k_vret (pc := 30) C (fun j => [q1, q2].getD j 0) rfl rfl dX4_init_30
def kf_X0 (p0 : Nat) (u : Nat → Nat) : List Value := [.ref p0, .ref (u 0), .ref (u 1), .int 0]
def kl_X0 (CS : ClassId × ClassId × ClassId) (u : Nat → Nat) : va_W := ((([] : va_W) ++ [((u 0), .inl (CS.1, 40, .inl fun _ => 0))]) ++ [((u 1), .inl (CS.1, 40, .inl fun _ => 0))])
theorem hy_X0_init : yX0_init.cls ≠ "java/lang/invoke/MethodHandle" ∧ yX0_init.cls ≠ "java/lang/invoke/VarHandle" ∧ (parseMethodDescriptor yX0_init.desc).map (fun d => d.parameters.length) = some 1 := by decide +kernel
set_option maxRecDepth 100000 in
set_option maxHeartbeats 4000000 in
theorem c_X0_init (p0 : Nat) {w0 : va_W} {k h0 : Nat} (hw : w0[k]? = some (h0, .inr (0, [.null, .null, .null, .int 0]))) : kCt (σ := Nat → Nat) yX0_init cX0_init 2 1 12 2 80 [.ref h0, .ref p0] w0 k h0 0 (kf_X0 p0) kl_X0 := by
  have hk : k < w0.length := (List.getElem?_eq_some_iff.mp hw).1
  refine k_met (fs0 := [.null, .null, .null, .int 0]) (by decide +kernel) rfl (Nat.le_of_ble_eq_true rfl) hw (fun X C => ?_)
  show kG X _ 2 _ 0 0 [(0, .ref h0), (1, .ref p0)] [] 0
  refine k_aload_n (pc := 0) C dX0_init_0 rfl 0 rfl ?_
  refine k_obj (pc := 1) C (by decide) (Nat.le_of_ble_eq_true rfl) wm_X0_3 dX0_init_1 ?_
  refine k_aload_n (pc := 4) C dX0_init_4 rfl 0 rfl ?_
  refine k_bipush (pc := 5) C dX0_init_5 ic_bipush_40 ?_
  refine k_newI (pc := 7) (N := 40) C (by decide) (by decide) (by decide) (Nat.le_of_ble_eq_true rfl) (Nat.le_of_ble_eq_true rfl) dX0_init_7 (fun q1 => ?_)
  refine k_putR (pc := 9) (i := 1) (T := TX0) (fs' := [.null, .ref q1, .null, .int 0]) C hk tyX0 tyX0_ok nmX0 inX0 rfl (by decide) wf_X0_9 rfl rfl (tyX0_ok 1 (by decide)) rfl rfl (Nat.le_of_ble_eq_true rfl) rfl dX0_init_9 ?_
  refine k_aload_n (pc := 12) C dX0_init_12 rfl 0 rfl ?_
  refine k_bipush (pc := 13) C dX0_init_13 ic_bipush_40 ?_
  refine k_newI (pc := 15) (N := 40) C (by decide) (by decide) (by decide) (Nat.le_of_ble_eq_true rfl) (Nat.le_of_ble_eq_true rfl) dX0_init_15 (fun q2 => ?_)
  refine k_putR (pc := 17) (i := 2) (T := TX0) (fs' := [.null, .ref q1, .ref q2, .int 0]) C hk tyX0 tyX0_ok nmX0 inX0 rfl (by decide) wf_X0_15 rfl rfl (tyX0_ok 2 (by decide)) rfl rfl (Nat.le_of_ble_eq_true rfl) rfl dX0_init_17 ?_
  refine k_aload_n (pc := 20) C dX0_init_20 rfl 0 rfl ?_
  refine k_aload_n (pc := 21) C dX0_init_21 rfl 1 rfl ?_
  refine k_putR (pc := 22) (i := 0) (T := TX0) (fs' := [.ref p0, .ref q1, .ref q2, .int 0]) C hk tyX0 tyX0_ok nmX0 inX0 rfl (by decide) wf_X0_18 rfl rfl (tyX0_ok 0 (by decide)) rfl rfl (Nat.le_of_ble_eq_true rfl) rfl dX0_init_22 ?_
  exact k_vret (pc := 25) C (fun j => [q1, q2].getD j 0) rfl rfl dX0_init_25
def kf_X9  (u : Nat → Nat) : List Value := [.ref (u 0), .ref (u 1), .ref (u 2), .ref (u 3), .ref (u 4), .ref (u 5), .ref (u 6), .ref (u 7), .ref (u 8), .ref (u 9), .ref (u 10), .ref (u 11), .ref (u 12), .ref (u 13), .int 0, .int 0, .int 0, .int 0, .int 0, .int (-1 : Int32), .ref (u 14), .int 0, .int 0, .ref (u 15), .ref (u 16), .ref (u 17), .ref (u 18), .ref (u 19), .ref (u 20), .ref (u 21), .int 0, .ref (u 22), .ref (u 23), .int 0]
def kl_X9 (CS : ClassId × ClassId × ClassId) (u : Nat → Nat) : va_W := ((((((((((((((((((((((((([] : va_W) ++ [((u 0), .inl (CS.1, 160, .inl fun _ => 0))]) ++ [((u 1), .inl (CS.2.1, 2, .inl fun _ => 0))]) ++ [((u 2), .inl (CS.1, 20, .inl fun _ => 0))]) ++ [((u 3), .inl (CS.1, 20, .inl fun _ => 0))]) ++ [((u 4), .inl (CS.1, 20, .inl fun _ => 0))]) ++ [((u 5), .inl (CS.1, 20, .inl fun _ => 0))]) ++ [((u 6), .inl (CS.1, 20, .inl fun _ => 0))]) ++ [((u 7), .inl (CS.1, 20, .inl fun _ => 0))]) ++ [((u 8), .inl (CS.1, 20, .inl fun _ => 0))]) ++ [((u 9), .inl (CS.1, 16, .inl fun _ => 0))]) ++ [((u 10), .inl (CS.1, 16, .inl fun _ => 0))]) ++ [((u 11), .inl (CS.1, 16, .inl fun _ => 0))]) ++ [((u 12), .inl (CS.1, 8, .inl fun _ => 0))]) ++ [((u 13), .inl (CS.1, 400, .inl fun _ => 0))]) ++ [((u 14), .inl (CS.1, 64, .inl fun _ => 0))]) ++ [((u 15), .inl (CS.2.1, 12288, .inl fun _ => 0))]) ++ [((u 16), .inl (CS.1, 13312, .inl fun _ => 0))]) ++ [((u 17), .inl (CS.2.1, 1024, .inl fun _ => 0))]) ++ [((u 18), .inl (CS.2.1, 1024, .inl fun _ => 0))]) ++ [((u 19), .inl (CS.1, 12, .inl fun _ => 0))]) ++ [((u 20), .inl (CS.1, 20, .inl fun _ => 0))]) ++ [((u 21), .inl (CS.1, 20, .inl fun _ => 0))]) ++ [((u 22), .inl (CS.1, 40, .inl fun _ => 0))]) ++ [((u 23), .inl (CS.1, 40, .inl fun _ => 0))])
theorem hy_X9_init : yX9_init.cls ≠ "java/lang/invoke/MethodHandle" ∧ yX9_init.cls ≠ "java/lang/invoke/VarHandle" ∧ (parseMethodDescriptor yX9_init.desc).map (fun d => d.parameters.length) = some 0 := by decide +kernel
set_option maxRecDepth 100000 in
set_option maxHeartbeats 4000000 in
theorem c_X9_init  {w0 : va_W} {k h0 : Nat} (hw : w0[k]? = some (h0, .inr (9, [.null, .null, .null, .null, .null, .null, .null, .null, .null, .null, .null, .null, .null, .null, .int 0, .int 0, .int 0, .int 0, .int 0, .int 0, .null, .int 0, .int 0, .null, .null, .null, .null, .null, .null, .null, .int 0, .null, .null, .int 0]))) : kCt (σ := Nat → Nat) yX9_init cX9_init 1 1 12 24 28602 [.ref h0] w0 k h0 9 (kf_X9 ) kl_X9 := by
  have hk : k < w0.length := (List.getElem?_eq_some_iff.mp hw).1
  refine k_met (fs0 := [.null, .null, .null, .null, .null, .null, .null, .null, .null, .null, .null, .null, .null, .null, .int 0, .int 0, .int 0, .int 0, .int 0, .int 0, .null, .int 0, .int 0, .null, .null, .null, .null, .null, .null, .null, .int 0, .null, .null, .int 0]) (by decide +kernel) rfl (Nat.le_of_ble_eq_true rfl) hw (fun X C => ?_)
  show kG X _ 1 _ 0 0 [(0, .ref h0)] [] 0
  refine k_aload_n (pc := 0) C dX9_init_0 rfl 0 rfl ?_
  refine k_obj (pc := 1) C (by decide) (Nat.le_of_ble_eq_true rfl) wm_X9_1 dX9_init_1 ?_
  refine k_aload_n (pc := 4) C dX9_init_4 rfl 0 rfl ?_
  refine k_sipush (pc := 5) C dX9_init_5 ic_sipush_160 ?_
  refine k_newI (pc := 8) (N := 160) C (by decide) (by decide) (by decide) (Nat.le_of_ble_eq_true rfl) (Nat.le_of_ble_eq_true rfl) dX9_init_8 (fun q1 => ?_)
  refine k_putR (pc := 10) (i := 0) (T := TX9) (fs' := [.ref q1, .null, .null, .null, .null, .null, .null, .null, .null, .null, .null, .null, .null, .null, .int 0, .int 0, .int 0, .int 0, .int 0, .int 0, .null, .int 0, .int 0, .null, .null, .null, .null, .null, .null, .null, .int 0, .null, .null, .int 0]) C hk tyX9 tyX9_ok nmX9 inX9 rfl (by decide) wf_X9_7 rfl rfl (tyX9_ok 0 (by decide)) rfl rfl (Nat.le_of_ble_eq_true rfl) rfl dX9_init_10 ?_
  refine k_aload_n (pc := 13) C dX9_init_13 rfl 0 rfl ?_
  refine k_iconst (pc := 14) C dX9_init_14 ic_iconst_2 ?_
  refine k_newZ (pc := 15) (N := 2) C (by decide) (by decide) (by decide) (Nat.le_of_ble_eq_true rfl) (Nat.le_of_ble_eq_true rfl) dX9_init_15 (fun q2 => ?_)
  refine k_putR (pc := 17) (i := 1) (T := TX9) (fs' := [.ref q1, .ref q2, .null, .null, .null, .null, .null, .null, .null, .null, .null, .null, .null, .null, .int 0, .int 0, .int 0, .int 0, .int 0, .int 0, .null, .int 0, .int 0, .null, .null, .null, .null, .null, .null, .null, .int 0, .null, .null, .int 0]) C hk tyX9 tyX9_ok nmX9 inX9 rfl (by decide) wf_X9_13 rfl rfl (tyX9_ok 1 (by decide)) rfl rfl (Nat.le_of_ble_eq_true rfl) rfl dX9_init_17 ?_
  refine k_aload_n (pc := 20) C dX9_init_20 rfl 0 rfl ?_
  refine k_bipush (pc := 21) C dX9_init_21 ic_bipush_20 ?_
  refine k_newI (pc := 23) (N := 20) C (by decide) (by decide) (by decide) (Nat.le_of_ble_eq_true rfl) (Nat.le_of_ble_eq_true rfl) dX9_init_23 (fun q3 => ?_)
  refine k_putR (pc := 25) (i := 2) (T := TX9) (fs' := [.ref q1, .ref q2, .ref q3, .null, .null, .null, .null, .null, .null, .null, .null, .null, .null, .null, .int 0, .int 0, .int 0, .int 0, .int 0, .int 0, .null, .int 0, .int 0, .null, .null, .null, .null, .null, .null, .null, .int 0, .null, .null, .int 0]) C hk tyX9 tyX9_ok nmX9 inX9 rfl (by decide) wf_X9_17 rfl rfl (tyX9_ok 2 (by decide)) rfl rfl (Nat.le_of_ble_eq_true rfl) rfl dX9_init_25 ?_
  refine k_aload_n (pc := 28) C dX9_init_28 rfl 0 rfl ?_
  refine k_bipush (pc := 29) C dX9_init_29 ic_bipush_20 ?_
  refine k_newI (pc := 31) (N := 20) C (by decide) (by decide) (by decide) (Nat.le_of_ble_eq_true rfl) (Nat.le_of_ble_eq_true rfl) dX9_init_31 (fun q4 => ?_)
  refine k_putR (pc := 33) (i := 3) (T := TX9) (fs' := [.ref q1, .ref q2, .ref q3, .ref q4, .null, .null, .null, .null, .null, .null, .null, .null, .null, .null, .int 0, .int 0, .int 0, .int 0, .int 0, .int 0, .null, .int 0, .int 0, .null, .null, .null, .null, .null, .null, .null, .int 0, .null, .null, .int 0]) C hk tyX9 tyX9_ok nmX9 inX9 rfl (by decide) wf_X9_20 rfl rfl (tyX9_ok 3 (by decide)) rfl rfl (Nat.le_of_ble_eq_true rfl) rfl dX9_init_33 ?_
  refine k_aload_n (pc := 36) C dX9_init_36 rfl 0 rfl ?_
  refine k_bipush (pc := 37) C dX9_init_37 ic_bipush_20 ?_
  refine k_newI (pc := 39) (N := 20) C (by decide) (by decide) (by decide) (Nat.le_of_ble_eq_true rfl) (Nat.le_of_ble_eq_true rfl) dX9_init_39 (fun q5 => ?_)
  refine k_putR (pc := 41) (i := 4) (T := TX9) (fs' := [.ref q1, .ref q2, .ref q3, .ref q4, .ref q5, .null, .null, .null, .null, .null, .null, .null, .null, .null, .int 0, .int 0, .int 0, .int 0, .int 0, .int 0, .null, .int 0, .int 0, .null, .null, .null, .null, .null, .null, .null, .int 0, .null, .null, .int 0]) C hk tyX9 tyX9_ok nmX9 inX9 rfl (by decide) wf_X9_23 rfl rfl (tyX9_ok 4 (by decide)) rfl rfl (Nat.le_of_ble_eq_true rfl) rfl dX9_init_41 ?_
  refine k_aload_n (pc := 44) C dX9_init_44 rfl 0 rfl ?_
  refine k_bipush (pc := 45) C dX9_init_45 ic_bipush_20 ?_
  refine k_newI (pc := 47) (N := 20) C (by decide) (by decide) (by decide) (Nat.le_of_ble_eq_true rfl) (Nat.le_of_ble_eq_true rfl) dX9_init_47 (fun q6 => ?_)
  refine k_putR (pc := 49) (i := 5) (T := TX9) (fs' := [.ref q1, .ref q2, .ref q3, .ref q4, .ref q5, .ref q6, .null, .null, .null, .null, .null, .null, .null, .null, .int 0, .int 0, .int 0, .int 0, .int 0, .int 0, .null, .int 0, .int 0, .null, .null, .null, .null, .null, .null, .null, .int 0, .null, .null, .int 0]) C hk tyX9 tyX9_ok nmX9 inX9 rfl (by decide) wf_X9_26 rfl rfl (tyX9_ok 5 (by decide)) rfl rfl (Nat.le_of_ble_eq_true rfl) rfl dX9_init_49 ?_
  refine k_aload_n (pc := 52) C dX9_init_52 rfl 0 rfl ?_
  refine k_bipush (pc := 53) C dX9_init_53 ic_bipush_20 ?_
  refine k_newI (pc := 55) (N := 20) C (by decide) (by decide) (by decide) (Nat.le_of_ble_eq_true rfl) (Nat.le_of_ble_eq_true rfl) dX9_init_55 (fun q7 => ?_)
  refine k_putR (pc := 57) (i := 6) (T := TX9) (fs' := [.ref q1, .ref q2, .ref q3, .ref q4, .ref q5, .ref q6, .ref q7, .null, .null, .null, .null, .null, .null, .null, .int 0, .int 0, .int 0, .int 0, .int 0, .int 0, .null, .int 0, .int 0, .null, .null, .null, .null, .null, .null, .null, .int 0, .null, .null, .int 0]) C hk tyX9 tyX9_ok nmX9 inX9 rfl (by decide) wf_X9_29 rfl rfl (tyX9_ok 6 (by decide)) rfl rfl (Nat.le_of_ble_eq_true rfl) rfl dX9_init_57 ?_
  refine k_aload_n (pc := 60) C dX9_init_60 rfl 0 rfl ?_
  refine k_bipush (pc := 61) C dX9_init_61 ic_bipush_20 ?_
  refine k_newI (pc := 63) (N := 20) C (by decide) (by decide) (by decide) (Nat.le_of_ble_eq_true rfl) (Nat.le_of_ble_eq_true rfl) dX9_init_63 (fun q8 => ?_)
  refine k_putR (pc := 65) (i := 7) (T := TX9) (fs' := [.ref q1, .ref q2, .ref q3, .ref q4, .ref q5, .ref q6, .ref q7, .ref q8, .null, .null, .null, .null, .null, .null, .int 0, .int 0, .int 0, .int 0, .int 0, .int 0, .null, .int 0, .int 0, .null, .null, .null, .null, .null, .null, .null, .int 0, .null, .null, .int 0]) C hk tyX9 tyX9_ok nmX9 inX9 rfl (by decide) wf_X9_32 rfl rfl (tyX9_ok 7 (by decide)) rfl rfl (Nat.le_of_ble_eq_true rfl) rfl dX9_init_65 ?_
  refine k_aload_n (pc := 68) C dX9_init_68 rfl 0 rfl ?_
  refine k_bipush (pc := 69) C dX9_init_69 ic_bipush_20 ?_
  refine k_newI (pc := 71) (N := 20) C (by decide) (by decide) (by decide) (Nat.le_of_ble_eq_true rfl) (Nat.le_of_ble_eq_true rfl) dX9_init_71 (fun q9 => ?_)
  refine k_putR (pc := 73) (i := 8) (T := TX9) (fs' := [.ref q1, .ref q2, .ref q3, .ref q4, .ref q5, .ref q6, .ref q7, .ref q8, .ref q9, .null, .null, .null, .null, .null, .int 0, .int 0, .int 0, .int 0, .int 0, .int 0, .null, .int 0, .int 0, .null, .null, .null, .null, .null, .null, .null, .int 0, .null, .null, .int 0]) C hk tyX9 tyX9_ok nmX9 inX9 rfl (by decide) wf_X9_35 rfl rfl (tyX9_ok 8 (by decide)) rfl rfl (Nat.le_of_ble_eq_true rfl) rfl dX9_init_73 ?_
  refine k_aload_n (pc := 76) C dX9_init_76 rfl 0 rfl ?_
  refine k_bipush (pc := 77) C dX9_init_77 ic_bipush_16 ?_
  refine k_newI (pc := 79) (N := 16) C (by decide) (by decide) (by decide) (Nat.le_of_ble_eq_true rfl) (Nat.le_of_ble_eq_true rfl) dX9_init_79 (fun q10 => ?_)
  refine k_putR (pc := 81) (i := 9) (T := TX9) (fs' := [.ref q1, .ref q2, .ref q3, .ref q4, .ref q5, .ref q6, .ref q7, .ref q8, .ref q9, .ref q10, .null, .null, .null, .null, .int 0, .int 0, .int 0, .int 0, .int 0, .int 0, .null, .int 0, .int 0, .null, .null, .null, .null, .null, .null, .null, .int 0, .null, .null, .int 0]) C hk tyX9 tyX9_ok nmX9 inX9 rfl (by decide) wf_X9_38 rfl rfl (tyX9_ok 9 (by decide)) rfl rfl (Nat.le_of_ble_eq_true rfl) rfl dX9_init_81 ?_
  refine k_aload_n (pc := 84) C dX9_init_84 rfl 0 rfl ?_
  refine k_bipush (pc := 85) C dX9_init_85 ic_bipush_16 ?_
  refine k_newI (pc := 87) (N := 16) C (by decide) (by decide) (by decide) (Nat.le_of_ble_eq_true rfl) (Nat.le_of_ble_eq_true rfl) dX9_init_87 (fun q11 => ?_)
  refine k_putR (pc := 89) (i := 10) (T := TX9) (fs' := [.ref q1, .ref q2, .ref q3, .ref q4, .ref q5, .ref q6, .ref q7, .ref q8, .ref q9, .ref q10, .ref q11, .null, .null, .null, .int 0, .int 0, .int 0, .int 0, .int 0, .int 0, .null, .int 0, .int 0, .null, .null, .null, .null, .null, .null, .null, .int 0, .null, .null, .int 0]) C hk tyX9 tyX9_ok nmX9 inX9 rfl (by decide) wf_X9_41 rfl rfl (tyX9_ok 10 (by decide)) rfl rfl (Nat.le_of_ble_eq_true rfl) rfl dX9_init_89 ?_
  refine k_aload_n (pc := 92) C dX9_init_92 rfl 0 rfl ?_
  refine k_bipush (pc := 93) C dX9_init_93 ic_bipush_16 ?_
  refine k_newI (pc := 95) (N := 16) C (by decide) (by decide) (by decide) (Nat.le_of_ble_eq_true rfl) (Nat.le_of_ble_eq_true rfl) dX9_init_95 (fun q12 => ?_)
  refine k_putR (pc := 97) (i := 11) (T := TX9) (fs' := [.ref q1, .ref q2, .ref q3, .ref q4, .ref q5, .ref q6, .ref q7, .ref q8, .ref q9, .ref q10, .ref q11, .ref q12, .null, .null, .int 0, .int 0, .int 0, .int 0, .int 0, .int 0, .null, .int 0, .int 0, .null, .null, .null, .null, .null, .null, .null, .int 0, .null, .null, .int 0]) C hk tyX9 tyX9_ok nmX9 inX9 rfl (by decide) wf_X9_44 rfl rfl (tyX9_ok 11 (by decide)) rfl rfl (Nat.le_of_ble_eq_true rfl) rfl dX9_init_97 ?_
  refine k_aload_n (pc := 100) C dX9_init_100 rfl 0 rfl ?_
  refine k_bipush (pc := 101) C dX9_init_101 ic_bipush_8 ?_
  refine k_newI (pc := 103) (N := 8) C (by decide) (by decide) (by decide) (Nat.le_of_ble_eq_true rfl) (Nat.le_of_ble_eq_true rfl) dX9_init_103 (fun q13 => ?_)
  refine k_putR (pc := 105) (i := 12) (T := TX9) (fs' := [.ref q1, .ref q2, .ref q3, .ref q4, .ref q5, .ref q6, .ref q7, .ref q8, .ref q9, .ref q10, .ref q11, .ref q12, .ref q13, .null, .int 0, .int 0, .int 0, .int 0, .int 0, .int 0, .null, .int 0, .int 0, .null, .null, .null, .null, .null, .null, .null, .int 0, .null, .null, .int 0]) C hk tyX9 tyX9_ok nmX9 inX9 rfl (by decide) wf_X9_47 rfl rfl (tyX9_ok 12 (by decide)) rfl rfl (Nat.le_of_ble_eq_true rfl) rfl dX9_init_105 ?_
  refine k_aload_n (pc := 108) C dX9_init_108 rfl 0 rfl ?_
  refine k_sipush (pc := 109) C dX9_init_109 ic_sipush_400 ?_
  refine k_newI (pc := 112) (N := 400) C (by decide) (by decide) (by decide) (Nat.le_of_ble_eq_true rfl) (Nat.le_of_ble_eq_true rfl) dX9_init_112 (fun q14 => ?_)
  refine k_putR (pc := 114) (i := 13) (T := TX9) (fs' := [.ref q1, .ref q2, .ref q3, .ref q4, .ref q5, .ref q6, .ref q7, .ref q8, .ref q9, .ref q10, .ref q11, .ref q12, .ref q13, .ref q14, .int 0, .int 0, .int 0, .int 0, .int 0, .int 0, .null, .int 0, .int 0, .null, .null, .null, .null, .null, .null, .null, .int 0, .null, .null, .int 0]) C hk tyX9 tyX9_ok nmX9 inX9 rfl (by decide) wf_X9_50 rfl rfl (tyX9_ok 13 (by decide)) rfl rfl (Nat.le_of_ble_eq_true rfl) rfl dX9_init_114 ?_
  refine k_aload_n (pc := 117) C dX9_init_117 rfl 0 rfl ?_
  refine k_iconst (pc := 118) C dX9_init_118 ic_iconst_m1 ?_
  refine k_putI (pc := 119) (i := 19) (T := TX9) (fs' := [.ref q1, .ref q2, .ref q3, .ref q4, .ref q5, .ref q6, .ref q7, .ref q8, .ref q9, .ref q10, .ref q11, .ref q12, .ref q13, .ref q14, .int 0, .int 0, .int 0, .int 0, .int 0, .int (-1 : Int32), .null, .int 0, .int 0, .null, .null, .null, .null, .null, .null, .null, .int 0, .null, .null, .int 0]) C hk tyX9 tyX9_ok nmX9 inX9 rfl (by decide) wf_X9_53 rfl (by decide +kernel) (Nat.le_of_ble_eq_true rfl) rfl dX9_init_119 ?_
  refine k_aload_n (pc := 122) C dX9_init_122 rfl 0 rfl ?_
  refine k_bipush (pc := 123) C dX9_init_123 ic_bipush_64 ?_
  refine k_newI (pc := 125) (N := 64) C (by decide) (by decide) (by decide) (Nat.le_of_ble_eq_true rfl) (Nat.le_of_ble_eq_true rfl) dX9_init_125 (fun q15 => ?_)
  refine k_putR (pc := 127) (i := 20) (T := TX9) (fs' := [.ref q1, .ref q2, .ref q3, .ref q4, .ref q5, .ref q6, .ref q7, .ref q8, .ref q9, .ref q10, .ref q11, .ref q12, .ref q13, .ref q14, .int 0, .int 0, .int 0, .int 0, .int 0, .int (-1 : Int32), .ref q15, .int 0, .int 0, .null, .null, .null, .null, .null, .null, .null, .int 0, .null, .null, .int 0]) C hk tyX9 tyX9_ok nmX9 inX9 rfl (by decide) wf_X9_57 rfl rfl (tyX9_ok 20 (by decide)) rfl rfl (Nat.le_of_ble_eq_true rfl) rfl dX9_init_127 ?_
  refine k_aload_n (pc := 130) C dX9_init_130 rfl 0 rfl ?_
  refine k_sipush (pc := 131) C dX9_init_131 ic_sipush_12288 ?_
  refine k_newZ (pc := 134) (N := 12288) C (by decide) (by decide) (by decide) (Nat.le_of_ble_eq_true rfl) (Nat.le_of_ble_eq_true rfl) dX9_init_134 (fun q16 => ?_)
  refine k_putR (pc := 136) (i := 23) (T := TX9) (fs' := [.ref q1, .ref q2, .ref q3, .ref q4, .ref q5, .ref q6, .ref q7, .ref q8, .ref q9, .ref q10, .ref q11, .ref q12, .ref q13, .ref q14, .int 0, .int 0, .int 0, .int 0, .int 0, .int (-1 : Int32), .ref q15, .int 0, .int 0, .ref q16, .null, .null, .null, .null, .null, .null, .int 0, .null, .null, .int 0]) C hk tyX9 tyX9_ok nmX9 inX9 rfl (by decide) wf_X9_60 rfl rfl (tyX9_ok 23 (by decide)) rfl rfl (Nat.le_of_ble_eq_true rfl) rfl dX9_init_136 ?_
  refine k_aload_n (pc := 139) C dX9_init_139 rfl 0 rfl ?_
  refine k_sipush (pc := 140) C dX9_init_140 ic_sipush_13312 ?_
  refine k_newI (pc := 143) (N := 13312) C (by decide) (by decide) (by decide) (Nat.le_of_ble_eq_true rfl) (Nat.le_of_ble_eq_true rfl) dX9_init_143 (fun q17 => ?_)
  refine k_putR (pc := 145) (i := 24) (T := TX9) (fs' := [.ref q1, .ref q2, .ref q3, .ref q4, .ref q5, .ref q6, .ref q7, .ref q8, .ref q9, .ref q10, .ref q11, .ref q12, .ref q13, .ref q14, .int 0, .int 0, .int 0, .int 0, .int 0, .int (-1 : Int32), .ref q15, .int 0, .int 0, .ref q16, .ref q17, .null, .null, .null, .null, .null, .int 0, .null, .null, .int 0]) C hk tyX9 tyX9_ok nmX9 inX9 rfl (by decide) wf_X9_63 rfl rfl (tyX9_ok 24 (by decide)) rfl rfl (Nat.le_of_ble_eq_true rfl) rfl dX9_init_145 ?_
  refine k_aload_n (pc := 148) C dX9_init_148 rfl 0 rfl ?_
  refine k_sipush (pc := 149) C dX9_init_149 ic_sipush_1024 ?_
  refine k_newZ (pc := 152) (N := 1024) C (by decide) (by decide) (by decide) (Nat.le_of_ble_eq_true rfl) (Nat.le_of_ble_eq_true rfl) dX9_init_152 (fun q18 => ?_)
  refine k_putR (pc := 154) (i := 25) (T := TX9) (fs' := [.ref q1, .ref q2, .ref q3, .ref q4, .ref q5, .ref q6, .ref q7, .ref q8, .ref q9, .ref q10, .ref q11, .ref q12, .ref q13, .ref q14, .int 0, .int 0, .int 0, .int 0, .int 0, .int (-1 : Int32), .ref q15, .int 0, .int 0, .ref q16, .ref q17, .ref q18, .null, .null, .null, .null, .int 0, .null, .null, .int 0]) C hk tyX9 tyX9_ok nmX9 inX9 rfl (by decide) wf_X9_66 rfl rfl (tyX9_ok 25 (by decide)) rfl rfl (Nat.le_of_ble_eq_true rfl) rfl dX9_init_154 ?_
  refine k_aload_n (pc := 157) C dX9_init_157 rfl 0 rfl ?_
  refine k_sipush (pc := 158) C dX9_init_158 ic_sipush_1024 ?_
  refine k_newZ (pc := 161) (N := 1024) C (by decide) (by decide) (by decide) (Nat.le_of_ble_eq_true rfl) (Nat.le_of_ble_eq_true rfl) dX9_init_161 (fun q19 => ?_)
  refine k_putR (pc := 163) (i := 26) (T := TX9) (fs' := [.ref q1, .ref q2, .ref q3, .ref q4, .ref q5, .ref q6, .ref q7, .ref q8, .ref q9, .ref q10, .ref q11, .ref q12, .ref q13, .ref q14, .int 0, .int 0, .int 0, .int 0, .int 0, .int (-1 : Int32), .ref q15, .int 0, .int 0, .ref q16, .ref q17, .ref q18, .ref q19, .null, .null, .null, .int 0, .null, .null, .int 0]) C hk tyX9 tyX9_ok nmX9 inX9 rfl (by decide) wf_X9_69 rfl rfl (tyX9_ok 26 (by decide)) rfl rfl (Nat.le_of_ble_eq_true rfl) rfl dX9_init_163 ?_
  refine k_aload_n (pc := 166) C dX9_init_166 rfl 0 rfl ?_
  refine k_bipush (pc := 167) C dX9_init_167 ic_bipush_12 ?_
  refine k_newI (pc := 169) (N := 12) C (by decide) (by decide) (by decide) (Nat.le_of_ble_eq_true rfl) (Nat.le_of_ble_eq_true rfl) dX9_init_169 (fun q20 => ?_)
  refine k_putR (pc := 171) (i := 27) (T := TX9) (fs' := [.ref q1, .ref q2, .ref q3, .ref q4, .ref q5, .ref q6, .ref q7, .ref q8, .ref q9, .ref q10, .ref q11, .ref q12, .ref q13, .ref q14, .int 0, .int 0, .int 0, .int 0, .int 0, .int (-1 : Int32), .ref q15, .int 0, .int 0, .ref q16, .ref q17, .ref q18, .ref q19, .ref q20, .null, .null, .int 0, .null, .null, .int 0]) C hk tyX9 tyX9_ok nmX9 inX9 rfl (by decide) wf_X9_72 rfl rfl (tyX9_ok 27 (by decide)) rfl rfl (Nat.le_of_ble_eq_true rfl) rfl dX9_init_171 ?_
  refine k_aload_n (pc := 174) C dX9_init_174 rfl 0 rfl ?_
  refine k_bipush (pc := 175) C dX9_init_175 ic_bipush_20 ?_
  refine k_newI (pc := 177) (N := 20) C (by decide) (by decide) (by decide) (Nat.le_of_ble_eq_true rfl) (Nat.le_of_ble_eq_true rfl) dX9_init_177 (fun q21 => ?_)
  refine k_putR (pc := 179) (i := 28) (T := TX9) (fs' := [.ref q1, .ref q2, .ref q3, .ref q4, .ref q5, .ref q6, .ref q7, .ref q8, .ref q9, .ref q10, .ref q11, .ref q12, .ref q13, .ref q14, .int 0, .int 0, .int 0, .int 0, .int 0, .int (-1 : Int32), .ref q15, .int 0, .int 0, .ref q16, .ref q17, .ref q18, .ref q19, .ref q20, .ref q21, .null, .int 0, .null, .null, .int 0]) C hk tyX9 tyX9_ok nmX9 inX9 rfl (by decide) wf_X9_75 rfl rfl (tyX9_ok 28 (by decide)) rfl rfl (Nat.le_of_ble_eq_true rfl) rfl dX9_init_179 ?_
  refine k_aload_n (pc := 182) C dX9_init_182 rfl 0 rfl ?_
  refine k_bipush (pc := 183) C dX9_init_183 ic_bipush_20 ?_
  refine k_newI (pc := 185) (N := 20) C (by decide) (by decide) (by decide) (Nat.le_of_ble_eq_true rfl) (Nat.le_of_ble_eq_true rfl) dX9_init_185 (fun q22 => ?_)
  refine k_putR (pc := 187) (i := 29) (T := TX9) (fs' := [.ref q1, .ref q2, .ref q3, .ref q4, .ref q5, .ref q6, .ref q7, .ref q8, .ref q9, .ref q10, .ref q11, .ref q12, .ref q13, .ref q14, .int 0, .int 0, .int 0, .int 0, .int 0, .int (-1 : Int32), .ref q15, .int 0, .int 0, .ref q16, .ref q17, .ref q18, .ref q19, .ref q20, .ref q21, .ref q22, .int 0, .null, .null, .int 0]) C hk tyX9 tyX9_ok nmX9 inX9 rfl (by decide) wf_X9_78 rfl rfl (tyX9_ok 29 (by decide)) rfl rfl (Nat.le_of_ble_eq_true rfl) rfl dX9_init_187 ?_
  refine k_aload_n (pc := 190) C dX9_init_190 rfl 0 rfl ?_
  refine k_bipush (pc := 191) C dX9_init_191 ic_bipush_40 ?_
  refine k_newI (pc := 193) (N := 40) C (by decide) (by decide) (by decide) (Nat.le_of_ble_eq_true rfl) (Nat.le_of_ble_eq_true rfl) dX9_init_193 (fun q23 => ?_)
  refine k_putR (pc := 195) (i := 31) (T := TX9) (fs' := [.ref q1, .ref q2, .ref q3, .ref q4, .ref q5, .ref q6, .ref q7, .ref q8, .ref q9, .ref q10, .ref q11, .ref q12, .ref q13, .ref q14, .int 0, .int 0, .int 0, .int 0, .int 0, .int (-1 : Int32), .ref q15, .int 0, .int 0, .ref q16, .ref q17, .ref q18, .ref q19, .ref q20, .ref q21, .ref q22, .int 0, .ref q23, .null, .int 0]) C hk tyX9 tyX9_ok nmX9 inX9 rfl (by decide) wf_X9_81 rfl rfl (tyX9_ok 31 (by decide)) rfl rfl (Nat.le_of_ble_eq_true rfl) rfl dX9_init_195 ?_
  refine k_aload_n (pc := 198) C dX9_init_198 rfl 0 rfl ?_
  refine k_bipush (pc := 199) C dX9_init_199 ic_bipush_40 ?_
  refine k_newI (pc := 201) (N := 40) C (by decide) (by decide) (by decide) (Nat.le_of_ble_eq_true rfl) (Nat.le_of_ble_eq_true rfl) dX9_init_201 (fun q24 => ?_)
  refine k_putR (pc := 203) (i := 32) (T := TX9) (fs' := [.ref q1, .ref q2, .ref q3, .ref q4, .ref q5, .ref q6, .ref q7, .ref q8, .ref q9, .ref q10, .ref q11, .ref q12, .ref q13, .ref q14, .int 0, .int 0, .int 0, .int 0, .int 0, .int (-1 : Int32), .ref q15, .int 0, .int 0, .ref q16, .ref q17, .ref q18, .ref q19, .ref q20, .ref q21, .ref q22, .int 0, .ref q23, .ref q24, .int 0]) C hk tyX9 tyX9_ok nmX9 inX9 rfl (by decide) wf_X9_84 rfl rfl (tyX9_ok 32 (by decide)) rfl rfl (Nat.le_of_ble_eq_true rfl) rfl dX9_init_203 ?_
  exact k_vret (pc := 206) C (fun j => [q1, q2, q3, q4, q5, q6, q7, q8, q9, q10, q11, q12, q13, q14, q15, q16, q17, q18, q19, q20, q21, q22, q23, q24].getD j 0) rfl rfl dX9_init_206
