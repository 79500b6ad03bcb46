/-! X9_write -/
set_option maxRecDepth 100000 in
set_option maxHeartbeats 4000000 in
theorem c_X9_write (a0 : Int32) (a1 : Int32)  (M : gM) : gCt yX9_write cX9_write 3 (some .int) 2 46 (fun ad K V => [.ref (ad 95), .int a0, .int a1]) rvW rMW M (f_X9_write a0 a1 M) := by
  refine g_met (y := yX9_write) (by decide +kernel) (fun _ _ _ => Nat.le_of_ble_eq_true rfl) (fun X C => ?_)
  show G X (gQm X rvW rMW) 3 M [(0, .ref (xad X 95)), (1, .int a0), (2, .int a1)] [] 0 (f_X9_write a0 a1 M)
  unfold f_X9_write
  refine g_aload_n (pc := 0) C dX9_write_0 rfl 0 rfl ?_
  refine g_iload_n (pc := 1) C dX9_write_1 rfl 2 rfl ?_
  refine g_callR (pc := 2) C (g_runV (stk := []) C (c_X9_isPart a1 M) rfl rfl rfl kd_95 rfl wC_X9_isPart wI_X9_isPart wV_X9_isPart wi_X9 wm_X9_184 hy_X9_isPart (by decide) (Nat.le_of_ble_eq_true rfl) dX9_write_2) (fun r1 => ?_)
  refine g_if_ne (pc := 5) (tgt := 11) C dX9_write_5 (by decide) ?_ ?_
  · refine g_iload_n (pc := 11) C dX9_write_11 rfl 1 rfl ?_
    refine g_i2l (pc := 12) C dX9_write_12 ?_
    refine g_lconst (pc := 13) (v := 0) C dX9_write_13 rfl ?_
    refine g_ldc2 (pc := 14) C wl_X9_251 dX9_write_14 ?_
    refine g_callR (pc := 17) C (g_runS (stk := []) C (c_X9_in a0.toInt64 (0 : Int64) (11 : Int64) M) rfl rfl rfl wC_X9_in wS_X9_in wi_X9 wm_X9_89 hy_X9_in (by decide) (Nat.le_of_ble_eq_true rfl) dX9_write_17) (fun r2 => ?_)
    refine g_if_ne (pc := 20) (tgt := 26) C dX9_write_20 (by decide) ?_ ?_
    · refine g_aload_n (pc := 26) C dX9_write_26 rfl 0 rfl ?_
      refine gf_X9_159 (pc := 27) C kd_95 dX9_write_27 ?_
      refine g_bipush (pc := 30) C dX9_write_30 ic_bipush_40 ?_
      refine g_icmp_ne (pc := 32) (tgt := 38) C dX9_write_32 (by decide) ?_ ?_
      · refine g_aload_n (pc := 38) C dX9_write_38 rfl 0 rfl ?_
        refine gf_X9_81 (pc := 39) (u := 118) C kd_95 rfl dX9_write_39 ?_
        refine g_aload_n (pc := 42) C dX9_write_42 rfl 0 rfl ?_
        refine gf_X9_159 (pc := 43) C kd_95 dX9_write_43 ?_
        refine g_iload_n (pc := 46) C dX9_write_46 rfl 1 rfl ?_
        refine g_iast (pc := 47) C kd_118 dX9_write_47 ?_
        refine g_ltM (fun M3 => ?_)
        refine g_aload_n (pc := 48) C dX9_write_48 rfl 0 rfl ?_
        refine gf_X9_84 (pc := 49) (u := 119) C kd_95 rfl dX9_write_49 ?_
        refine g_aload_n (pc := 52) C dX9_write_52 rfl 0 rfl ?_
        refine gf_X9_159 (pc := 53) C kd_95 dX9_write_53 ?_
        refine g_iload_n (pc := 56) C dX9_write_56 rfl 2 rfl ?_
        refine g_iast (pc := 57) C kd_119 dX9_write_57 ?_
        refine g_ltM (fun M4 => ?_)
        refine g_aload_n (pc := 58) C dX9_write_58 rfl 0 rfl ?_
        refine g_dup (pc := 59) C dX9_write_59 rfl ?_
        refine gf_X9_159 (pc := 60) C kd_95 dX9_write_60 ?_
        refine g_iconst (pc := 63) C dX9_write_63 ic_iconst_1 ?_
        refine g_iadd (pc := 64) C dX9_write_64 ?_
        refine gp_X9_159 (pc := 65) C kd_95 dX9_write_65 ?_
        refine g_ltM (fun M5 => ?_)
        refine g_aload_n (pc := 68) C dX9_write_68 rfl 0 rfl ?_
        refine gf_X9_159 (pc := 69) C kd_95 dX9_write_69 ?_
        exact g_iret (pc := 72) C dX9_write_72 rfl rfl
      · refine g_ldc (pc := 35) C wk_X9_97 dX9_write_35 ?_
        exact g_iret (pc := 37) C dX9_write_37 rfl rfl
    · refine g_ldc (pc := 23) C wk_X9_93 dX9_write_23 ?_
      exact g_iret (pc := 25) C dX9_write_25 rfl rfl
  · refine g_ldc (pc := 8) C wk_X9_188 dX9_write_8 ?_
    exact g_iret (pc := 10) C dX9_write_10 rfl rfl

