/-! write -/
theorem q_write (a b : Int32) (M : gM) (h : qR M) : eqW (f_X8_write a b M) (f_X9_write a b) := by
  obtain ⟨D, ⟨w1, w2, w3, w4⟩, hT, hS, hX, hL, hG, hB, hF, hb⟩ := id h
  obtain ⟨g1, g2, k3⟩ := id hB
  have hn := w1.1
  unfold eqW f_X8_write f_X9_write
  rcases e_part hT hn b with ⟨v, hv, rfl, e3, e4⟩ | ⟨e3, e4⟩
  · rcases e8_isHour a M M with ⟨j, hj, rfl, e1⟩ | ⟨e0, e1⟩
    · obtain ⟨x1, x2, x3, x4, x5, x6⟩ := id w3
      by_cases hf : D 0 8 = 40
      · refine ⟨-nI 1000000004, M, M, ?_, ?_, h⟩
        · unfold f_X0_add
          simp (disch := omega) only [pn_lt, pn_ltM, pl_ofN, ↓pl_m1, pl_lit, fa_litL, pn_bs, ck_n, ckh_n, ck_t, ckh_t, nI_add, nI_clamp, nI_ltI, nI_leI, nI_eq, m1_eq, m1_eq2, m1_lt, m1_le, m1_lt2, m1_le2, m1_m1, nI_m1, nI_subn, gb_n, Nat.add_zero, Nat.zero_add, Nat.zero_or, Nat.or_zero, nle_f, nle_t, nlt_f, nlt_t, neq_f, neq_t, Bool.false_eq_true, eq_self, if_true, if_false, ite_true, ite_false, and_true, true_and, and_false, false_and, decide_true, decide_false, Bool.and_true, Bool.true_and, Bool.and_false, Bool.false_and, Bool.or_false, Bool.false_or, Bool.or_true, Bool.true_or, Bool.not_true, Bool.not_false, not_true_eq_false, not_false_eq_true, e1, e3, g1, hf]
        · rw [e4]
          simp (disch := omega) only [pn_lt, pn_ltM, pl_ofN, ↓pl_m1, pl_lit, fa_litL, pn_bs, ck_n, ckh_n, ck_t, ckh_t, nI_add, nI_clamp, nI_ltI, nI_leI, nI_eq, m1_eq, m1_eq2, m1_lt, m1_le, m1_lt2, m1_le2, m1_m1, nI_m1, nI_subn, gb_n, Nat.add_zero, Nat.zero_add, Nat.zero_or, Nat.or_zero, nle_f, nle_t, nlt_f, nlt_t, neq_f, neq_t, Bool.false_eq_true, eq_self, if_true, if_false, ite_true, ite_false, and_true, true_and, and_false, false_and, decide_true, decide_false, Bool.and_true, Bool.true_and, Bool.and_false, Bool.false_and, Bool.or_false, Bool.false_or, Bool.or_true, Bool.true_or, Bool.not_true, Bool.not_false, not_true_eq_false, not_false_eq_true, e9_inL, g2, hf]
      · refine ⟨nI (D 0 8 + 1), gst (gst (gst M 92 (D 0 8) (nI j)) 93 (D 0 8) (nI v)) 91 3 (nI (D 0 8 + 1)), gst (gst (gst (gst (gst (gst M 92 (D 0 8) (nI j)) 93 (D 0 8) (nI v)) 91 3 (nI (D 0 8 + 1))) 118 (D 0 8) (nI j)) 119 (D 0 8) (nI v)) 95 33 (nI (D 0 8 + 1)), ?_, ?_, dset (dset (dset D 15 (D 0 8) j) 16 (D 0 8) v) 0 8 (D 0 8 + 1), ⟨?_, ?_, ?_, ?_⟩, ?_, ?_, ?_, ?_, ?_, ?_, ?_, ?_⟩
        · unfold f_X0_add
          simp (disch := omega) only [pn_lt, pn_ltM, pl_ofN, ↓pl_m1, pl_lit, fa_litL, pn_bs, ck_n, ckh_n, ck_t, ckh_t, nI_add, nI_clamp, nI_ltI, nI_leI, nI_eq, m1_eq, m1_eq2, m1_lt, m1_le, m1_lt2, m1_le2, m1_m1, nI_m1, nI_subn, gb_n, Nat.add_zero, Nat.zero_add, Nat.zero_or, Nat.or_zero, nle_f, nle_t, nlt_f, nlt_t, neq_f, neq_t, Bool.false_eq_true, eq_self, if_true, if_false, ite_true, ite_false, and_true, true_and, and_false, false_and, decide_true, decide_false, Bool.and_true, Bool.true_and, Bool.and_false, Bool.false_and, Bool.or_false, Bool.false_or, Bool.or_true, Bool.true_or, Bool.not_true, Bool.not_false, not_true_eq_false, not_false_eq_true, e1, e3, g1, gst_v]
        · rw [e9_isPart_fr (M := M) (N := gst (gst (gst M 92 (D 0 8) (nI j)) 93 (D 0 8) (nI v)) 91 3 (nI (D 0 8 + 1))) rfl, e4]
          simp (disch := omega) only [pn_lt, pn_ltM, pl_ofN, ↓pl_m1, pl_lit, fa_litL, pn_bs, ck_n, ckh_n, ck_t, ckh_t, nI_add, nI_clamp, nI_ltI, nI_leI, nI_eq, m1_eq, m1_eq2, m1_lt, m1_le, m1_lt2, m1_le2, m1_m1, nI_m1, nI_subn, gb_n, Nat.add_zero, Nat.zero_add, Nat.zero_or, Nat.or_zero, nle_f, nle_t, nlt_f, nlt_t, neq_f, neq_t, Bool.false_eq_true, eq_self, if_true, if_false, ite_true, ite_false, and_true, true_and, and_false, false_and, decide_true, decide_false, Bool.and_true, Bool.true_and, Bool.and_false, Bool.false_and, Bool.or_false, Bool.false_or, Bool.or_true, Bool.true_or, Bool.not_true, Bool.not_false, not_true_eq_false, not_false_eq_true, e9_inL, g2, gst_v]
        · exact qBT_D w1 (fun c i q => by rw [dset_v, dset_v, dset_v, if_neg (by omega), if_neg (by omega), if_neg (by omega)])
        · exact qBL_D w2 (fun c i q => by rw [dset_v, dset_v, dset_v, if_neg (by omega), if_neg (by omega), if_neg (by omega)])
        · have e0 : dset (dset (dset D 15 (D 0 8) j) 16 (D 0 8) v) 0 8 (D 0 8 + 1) 0 0 = D 0 0 := by rw [dset_v, dset_v, dset_v, if_neg (by omega), if_neg (by omega), if_neg (by omega)]
          unfold qBX
          rw [e0]
          refine ⟨?_, ?_, ?_, ?_, ?_, ?_⟩
          · simp (disch := omega) only [pn_lt, pn_ltM, pl_ofN, ↓pl_m1, pl_lit, fa_litL, pn_bs, ck_n, ckh_n, ck_t, ckh_t, nI_add, nI_clamp, nI_ltI, nI_leI, nI_eq, m1_eq, m1_eq2, m1_lt, m1_le, m1_lt2, m1_le2, m1_m1, nI_m1, nI_subn, gb_n, Nat.add_zero, Nat.zero_add, Nat.zero_or, Nat.or_zero, nle_f, nle_t, nlt_f, nlt_t, neq_f, neq_t, Bool.false_eq_true, eq_self, if_true, if_false, ite_true, ite_false, and_true, true_and, and_false, false_and, decide_true, decide_false, Bool.and_true, Bool.true_and, Bool.and_false, Bool.false_and, Bool.or_false, Bool.false_or, Bool.or_true, Bool.true_or, Bool.not_true, Bool.not_false, not_true_eq_false, not_false_eq_true, dset_v]
            try exact x1
          · simp (disch := omega) only [pn_lt, pn_ltM, pl_ofN, ↓pl_m1, pl_lit, fa_litL, pn_bs, ck_n, ckh_n, ck_t, ckh_t, nI_add, nI_clamp, nI_ltI, nI_leI, nI_eq, m1_eq, m1_eq2, m1_lt, m1_le, m1_lt2, m1_le2, m1_m1, nI_m1, nI_subn, gb_n, Nat.add_zero, Nat.zero_add, Nat.zero_or, Nat.or_zero, nle_f, nle_t, nlt_f, nlt_t, neq_f, neq_t, Bool.false_eq_true, eq_self, if_true, if_false, ite_true, ite_false, and_true, true_and, and_false, false_and, decide_true, decide_false, Bool.and_true, Bool.true_and, Bool.and_false, Bool.false_and, Bool.or_false, Bool.false_or, Bool.or_true, Bool.true_or, Bool.not_true, Bool.not_false, not_true_eq_false, not_false_eq_true, dset_v]
            try exact x2
          · simp (disch := omega) only [pn_lt, pn_ltM, pl_ofN, ↓pl_m1, pl_lit, fa_litL, pn_bs, ck_n, ckh_n, ck_t, ckh_t, nI_add, nI_clamp, nI_ltI, nI_leI, nI_eq, m1_eq, m1_eq2, m1_lt, m1_le, m1_lt2, m1_le2, m1_m1, nI_m1, nI_subn, gb_n, Nat.add_zero, Nat.zero_add, Nat.zero_or, Nat.or_zero, nle_f, nle_t, nlt_f, nlt_t, neq_f, neq_t, Bool.false_eq_true, eq_self, if_true, if_false, ite_true, ite_false, and_true, true_and, and_false, false_and, decide_true, decide_false, Bool.and_true, Bool.true_and, Bool.and_false, Bool.false_and, Bool.or_false, Bool.false_or, Bool.or_true, Bool.true_or, Bool.not_true, Bool.not_false, not_true_eq_false, not_false_eq_true, dset_v]
          · simp (disch := omega) only [pn_lt, pn_ltM, pl_ofN, ↓pl_m1, pl_lit, fa_litL, pn_bs, ck_n, ckh_n, ck_t, ckh_t, nI_add, nI_clamp, nI_ltI, nI_leI, nI_eq, m1_eq, m1_eq2, m1_lt, m1_le, m1_lt2, m1_le2, m1_m1, nI_m1, nI_subn, gb_n, Nat.add_zero, Nat.zero_add, Nat.zero_or, Nat.or_zero, nle_f, nle_t, nlt_f, nlt_t, neq_f, neq_t, Bool.false_eq_true, eq_self, if_true, if_false, ite_true, ite_false, and_true, true_and, and_false, false_and, decide_true, decide_false, Bool.and_true, Bool.true_and, Bool.and_false, Bool.false_and, Bool.or_false, Bool.false_or, Bool.or_true, Bool.true_or, Bool.not_true, Bool.not_false, not_true_eq_false, not_false_eq_true, dset_v]
            try exact x4
          · intro i hi
            rw [dset_v, if_neg (by omega), dset_v, if_neg (by omega), dset_v, if_neg (by omega)] at hi
            simp (disch := omega) only [pn_lt, pn_ltM, pl_ofN, ↓pl_m1, pl_lit, fa_litL, pn_bs, ck_n, ckh_n, ck_t, ckh_t, nI_add, nI_clamp, nI_ltI, nI_leI, nI_eq, m1_eq, m1_eq2, m1_lt, m1_le, m1_lt2, m1_le2, m1_m1, nI_m1, nI_subn, gb_n, Nat.add_zero, Nat.zero_add, Nat.zero_or, Nat.or_zero, nle_f, nle_t, nlt_f, nlt_t, neq_f, neq_t, Bool.false_eq_true, eq_self, if_true, if_false, ite_true, ite_false, and_true, true_and, and_false, false_and, decide_true, decide_false, Bool.and_true, Bool.true_and, Bool.and_false, Bool.false_and, Bool.or_false, Bool.false_or, Bool.or_true, Bool.true_or, Bool.not_true, Bool.not_false, not_true_eq_false, not_false_eq_true, dset_v]
            exact x5 i hi
          · intro i hi
            rw [dset_v, if_pos ⟨rfl, rfl⟩] at hi
            by_cases e : i = D 0 8
            · simp (disch := omega) only [pn_lt, pn_ltM, pl_ofN, ↓pl_m1, pl_lit, fa_litL, pn_bs, ck_n, ckh_n, ck_t, ckh_t, nI_add, nI_clamp, nI_ltI, nI_leI, nI_eq, m1_eq, m1_eq2, m1_lt, m1_le, m1_lt2, m1_le2, m1_m1, nI_m1, nI_subn, gb_n, Nat.add_zero, Nat.zero_add, Nat.zero_or, Nat.or_zero, nle_f, nle_t, nlt_f, nlt_t, neq_f, neq_t, Bool.false_eq_true, eq_self, if_true, if_false, ite_true, ite_false, and_true, true_and, and_false, false_and, decide_true, decide_false, Bool.and_true, Bool.true_and, Bool.and_false, Bool.false_and, Bool.or_false, Bool.false_or, Bool.or_true, Bool.true_or, Bool.not_true, Bool.not_false, not_true_eq_false, not_false_eq_true, dset_v, e]
            · have := x6 i (by omega)
              simp (disch := omega) only [pn_lt, pn_ltM, pl_ofN, ↓pl_m1, pl_lit, fa_litL, pn_bs, ck_n, ckh_n, ck_t, ckh_t, nI_add, nI_clamp, nI_ltI, nI_leI, nI_eq, m1_eq, m1_eq2, m1_lt, m1_le, m1_lt2, m1_le2, m1_m1, nI_m1, nI_subn, gb_n, Nat.add_zero, Nat.zero_add, Nat.zero_or, Nat.or_zero, nle_f, nle_t, nlt_f, nlt_t, neq_f, neq_t, Bool.false_eq_true, eq_self, if_true, if_false, ite_true, ite_false, and_true, true_and, and_false, false_and, decide_true, decide_false, Bool.and_true, Bool.true_and, Bool.and_false, Bool.false_and, Bool.or_false, Bool.false_or, Bool.or_true, Bool.true_or, Bool.not_true, Bool.not_false, not_true_eq_false, not_false_eq_true, dset_v, e]
              try exact this
        · exact qBV_D w4 (fun c i q => by rw [dset_v, dset_v, dset_v, if_neg (by omega), if_neg (by omega), if_neg (by omega)])
        · exact qTW_D (qTW_fr hT w1.1 w1.2.1 (fun k i q => by rw [gst_v, gst_v, gst_v, gst_v, gst_v, gst_v, if_neg (by omega), if_neg (by omega), if_neg (by omega), if_neg (by omega), if_neg (by omega), if_neg (by omega)])) (fun c i q => by rw [dset_v, dset_v, dset_v, if_neg (by omega), if_neg (by omega), if_neg (by omega)])
        · exact qSV_D (qSV_fr hS w1.1 (fun k i q => by rw [gst_v, gst_v, gst_v, gst_v, gst_v, gst_v, if_neg (by omega), if_neg (by omega), if_neg (by omega), if_neg (by omega), if_neg (by omega), if_neg (by omega)])) (fun c i q => by rw [dset_v, dset_v, dset_v, if_neg (by omega), if_neg (by omega), if_neg (by omega)])
        · exact qTX_D (qTX_fr hX (fun k i q => by rw [gst_v, gst_v, gst_v, gst_v, gst_v, gst_v, if_neg (by omega), if_neg (by omega), if_neg (by omega), if_neg (by omega), if_neg (by omega), if_neg (by omega)])) (fun c i q => by rw [dset_v, dset_v, dset_v, if_neg (by omega), if_neg (by omega), if_neg (by omega)])
        · exact qLK_D (qLK_fr hL (fun k i q => by rw [gst_v, gst_v, gst_v, gst_v, gst_v, gst_v, if_neg (by omega), if_neg (by omega), if_neg (by omega), if_neg (by omega), if_neg (by omega), if_neg (by omega)])) (fun c i q => by rw [dset_v, dset_v, dset_v, if_neg (by omega), if_neg (by omega), if_neg (by omega)])
        · exact qSG_D (qSG_fr hG (fun k i q => by rw [gst_v, gst_v, gst_v, gst_v, gst_v, gst_v, if_neg (by omega), if_neg (by omega), if_neg (by omega), if_neg (by omega), if_neg (by omega), if_neg (by omega)])) (fun c i q => by rw [dset_v, dset_v, dset_v, if_neg (by omega), if_neg (by omega), if_neg (by omega)])
        · refine ⟨?_, ?_, fun i hi => ?_⟩
          · simp (disch := omega) only [pn_lt, pn_ltM, pl_ofN, ↓pl_m1, pl_lit, fa_litL, pn_bs, ck_n, ckh_n, ck_t, ckh_t, nI_add, nI_clamp, nI_ltI, nI_leI, nI_eq, m1_eq, m1_eq2, m1_lt, m1_le, m1_lt2, m1_le2, m1_m1, nI_m1, nI_subn, gb_n, Nat.add_zero, Nat.zero_add, Nat.zero_or, Nat.or_zero, nle_f, nle_t, nlt_f, nlt_t, neq_f, neq_t, Bool.false_eq_true, eq_self, if_true, if_false, ite_true, ite_false, and_true, true_and, and_false, false_and, decide_true, decide_false, Bool.and_true, Bool.true_and, Bool.and_false, Bool.false_and, Bool.or_false, Bool.false_or, Bool.or_true, Bool.true_or, Bool.not_true, Bool.not_false, not_true_eq_false, not_false_eq_true, gst_v, dset_v]
          · simp (disch := omega) only [pn_lt, pn_ltM, pl_ofN, ↓pl_m1, pl_lit, fa_litL, pn_bs, ck_n, ckh_n, ck_t, ckh_t, nI_add, nI_clamp, nI_ltI, nI_leI, nI_eq, m1_eq, m1_eq2, m1_lt, m1_le, m1_lt2, m1_le2, m1_m1, nI_m1, nI_subn, gb_n, Nat.add_zero, Nat.zero_add, Nat.zero_or, Nat.or_zero, nle_f, nle_t, nlt_f, nlt_t, neq_f, neq_t, Bool.false_eq_true, eq_self, if_true, if_false, ite_true, ite_false, and_true, true_and, and_false, false_and, decide_true, decide_false, Bool.and_true, Bool.true_and, Bool.and_false, Bool.false_and, Bool.or_false, Bool.false_or, Bool.or_true, Bool.true_or, Bool.not_true, Bool.not_false, not_true_eq_false, not_false_eq_true, gst_v, dset_v]
          · rw [dset_v, if_pos ⟨rfl, rfl⟩] at hi
            by_cases e : i = D 0 8
            · simp (disch := omega) only [pn_lt, pn_ltM, pl_ofN, ↓pl_m1, pl_lit, fa_litL, pn_bs, ck_n, ckh_n, ck_t, ckh_t, nI_add, nI_clamp, nI_ltI, nI_leI, nI_eq, m1_eq, m1_eq2, m1_lt, m1_le, m1_lt2, m1_le2, m1_m1, nI_m1, nI_subn, gb_n, Nat.add_zero, Nat.zero_add, Nat.zero_or, Nat.or_zero, nle_f, nle_t, nlt_f, nlt_t, neq_f, neq_t, Bool.false_eq_true, eq_self, if_true, if_false, ite_true, ite_false, and_true, true_and, and_false, false_and, decide_true, decide_false, Bool.and_true, Bool.true_and, Bool.and_false, Bool.false_and, Bool.or_false, Bool.false_or, Bool.or_true, Bool.true_or, Bool.not_true, Bool.not_false, not_true_eq_false, not_false_eq_true, gst_v, dset_v, e]
            · obtain ⟨a1, a2, a3, a4⟩ := k3 i (by omega)
              simp (disch := omega) only [pn_lt, pn_ltM, pl_ofN, ↓pl_m1, pl_lit, fa_litL, pn_bs, ck_n, ckh_n, ck_t, ckh_t, nI_add, nI_clamp, nI_ltI, nI_leI, nI_eq, m1_eq, m1_eq2, m1_lt, m1_le, m1_lt2, m1_le2, m1_m1, nI_m1, nI_subn, gb_n, Nat.add_zero, Nat.zero_add, Nat.zero_or, Nat.or_zero, nle_f, nle_t, nlt_f, nlt_t, neq_f, neq_t, Bool.false_eq_true, eq_self, if_true, if_false, ite_true, ite_false, and_true, true_and, and_false, false_and, decide_true, decide_false, Bool.and_true, Bool.true_and, Bool.and_false, Bool.false_and, Bool.or_false, Bool.false_or, Bool.or_true, Bool.true_or, Bool.not_true, Bool.not_false, not_true_eq_false, not_false_eq_true, gst_v, dset_v, e, a1, a2, a3, a4]
        · have e0 : dset (dset (dset D 15 (D 0 8) j) 16 (D 0 8) v) 0 8 (D 0 8 + 1) 0 0 = D 0 0 := by rw [dset_v, dset_v, dset_v, if_neg (by omega), if_neg (by omega), if_neg (by omega)]
          rw [e0]
          exact qFI_fr hF w1.1 (fun k i q => by rw [gst_v, gst_v, gst_v, gst_v, gst_v, gst_v, if_neg (by omega), if_neg (by omega), if_neg (by omega), if_neg (by omega), if_neg (by omega), if_neg (by omega)])
        · simp (disch := omega) only [pn_lt, pn_ltM, pl_ofN, ↓pl_m1, pl_lit, fa_litL, pn_bs, ck_n, ckh_n, ck_t, ckh_t, nI_add, nI_clamp, nI_ltI, nI_leI, nI_eq, m1_eq, m1_eq2, m1_lt, m1_le, m1_lt2, m1_le2, m1_m1, nI_m1, nI_subn, gb_n, Nat.add_zero, Nat.zero_add, Nat.zero_or, Nat.or_zero, nle_f, nle_t, nlt_f, nlt_t, neq_f, neq_t, Bool.false_eq_true, eq_self, if_true, if_false, ite_true, ite_false, and_true, true_and, and_false, false_and, decide_true, decide_false, Bool.and_true, Bool.true_and, Bool.and_false, Bool.false_and, Bool.or_false, Bool.false_or, Bool.or_true, Bool.true_or, Bool.not_true, Bool.not_false, not_true_eq_false, not_false_eq_true, gst_v, hb]
    · exact ⟨-nI 1000000002, M, M, by simp (disch := omega) only [pn_lt, pn_ltM, pl_ofN, ↓pl_m1, pl_lit, fa_litL, pn_bs, ck_n, ckh_n, ck_t, ckh_t, nI_add, nI_clamp, nI_ltI, nI_leI, nI_eq, m1_eq, m1_eq2, m1_lt, m1_le, m1_lt2, m1_le2, m1_m1, nI_m1, nI_subn, gb_n, Nat.add_zero, Nat.zero_add, Nat.zero_or, Nat.or_zero, nle_f, nle_t, nlt_f, nlt_t, neq_f, neq_t, Bool.false_eq_true, eq_self, if_true, if_false, ite_true, ite_false, and_true, true_and, and_false, false_and, decide_true, decide_false, Bool.and_true, Bool.true_and, Bool.and_false, Bool.false_and, Bool.or_false, Bool.false_or, Bool.or_true, Bool.true_or, Bool.not_true, Bool.not_false, not_true_eq_false, not_false_eq_true, e1, e3], by rw [e4]; simp (disch := omega) only [pn_lt, pn_ltM, pl_ofN, ↓pl_m1, pl_lit, fa_litL, pn_bs, ck_n, ckh_n, ck_t, ckh_t, nI_add, nI_clamp, nI_ltI, nI_leI, nI_eq, m1_eq, m1_eq2, m1_lt, m1_le, m1_lt2, m1_le2, m1_m1, nI_m1, nI_subn, gb_n, Nat.add_zero, Nat.zero_add, Nat.zero_or, Nat.or_zero, nle_f, nle_t, nlt_f, nlt_t, neq_f, neq_t, Bool.false_eq_true, eq_self, if_true, if_false, ite_true, ite_false, and_true, true_and, and_false, false_and, decide_true, decide_false, Bool.and_true, Bool.true_and, Bool.and_false, Bool.false_and, Bool.or_false, Bool.false_or, Bool.or_true, Bool.true_or, Bool.not_true, Bool.not_false, not_true_eq_false, not_false_eq_true, e9_inL, eq_false e0], h⟩
  · exact ⟨-nI 1000000001, M, M, by simp (disch := omega) only [pn_lt, pn_ltM, pl_ofN, ↓pl_m1, pl_lit, fa_litL, pn_bs, ck_n, ckh_n, ck_t, ckh_t, nI_add, nI_clamp, nI_ltI, nI_leI, nI_eq, m1_eq, m1_eq2, m1_lt, m1_le, m1_lt2, m1_le2, m1_m1, nI_m1, nI_subn, gb_n, Nat.add_zero, Nat.zero_add, Nat.zero_or, Nat.or_zero, nle_f, nle_t, nlt_f, nlt_t, neq_f, neq_t, Bool.false_eq_true, eq_self, if_true, if_false, ite_true, ite_false, and_true, true_and, and_false, false_and, decide_true, decide_false, Bool.and_true, Bool.true_and, Bool.and_false, Bool.false_and, Bool.or_false, Bool.false_or, Bool.or_true, Bool.true_or, Bool.not_true, Bool.not_false, not_true_eq_false, not_false_eq_true, e3], by rw [e4]; simp (disch := omega) only [pn_lt, pn_ltM, pl_ofN, ↓pl_m1, pl_lit, fa_litL, pn_bs, ck_n, ckh_n, ck_t, ckh_t, nI_add, nI_clamp, nI_ltI, nI_leI, nI_eq, m1_eq, m1_eq2, m1_lt, m1_le, m1_lt2, m1_le2, m1_m1, nI_m1, nI_subn, gb_n, Nat.add_zero, Nat.zero_add, Nat.zero_or, Nat.or_zero, nle_f, nle_t, nlt_f, nlt_t, neq_f, neq_t, Bool.false_eq_true, eq_self, if_true, if_false, ite_true, ite_false, and_true, true_and, and_false, false_and, decide_true, decide_false, Bool.and_true, Bool.true_and, Bool.and_false, Bool.false_and, Bool.or_false, Bool.false_or, Bool.or_true, Bool.true_or, Bool.not_true, Bool.not_false, not_true_eq_false, not_false_eq_true], h⟩
/-! rows copied -/
theorem e8_copy {F a b c : Nat} (hF : 4000 ≤ F) (hc : c ≤ 64) (hab : a ≠ b) (M : gM) : ∃ M', f_X8_copyRow F a c b c M = some M' ∧ (∀ k, k ≠ b → M' k = M k) ∧ ∀ j, j < c → M' b j = M a j := by
  obtain ⟨s, ⟨h1, h2⟩, h3⟩ := up_inv (fun n i (N : gM) => f_X8_copyRow_h10 F a c b c n (nI c) (nI i) N) c (fun i N => (∀ k, k ≠ b → N k = M k) ∧ ∀ j, j < i → N b j = M a j) (by
    rintro n i N hi ⟨q1, q2⟩
    refine ⟨gst N b i (M a i), ⟨fun k hk => ?_, fun j hj => ?_⟩, ?_⟩
    · rw [gst_ne _ _ _ _ hk, q1 k hk]
    · rw [gst_v]
      by_cases e : j = i
      · rw [if_pos ⟨rfl, e⟩, e]
      · rw [if_neg (fun q => e q.2)]
        exact q2 j (by omega)
    · show f_X8_copyRow_h10_b _ _ _ _ _ _ _ _ _ = _
      unfold f_X8_copyRow_h10_b
      simp (disch := omega) only [pn_lt, pn_ltM, pl_ofN, ↓pl_m1, pl_lit, fa_litL, pn_bs, ck_n, ckh_n, ck_t, ckh_t, nI_add, nI_clamp, nI_ltI, nI_leI, nI_eq, m1_eq, m1_eq2, m1_lt, m1_le, m1_lt2, m1_le2, m1_m1, nI_m1, nI_subn, gb_n, Nat.add_zero, Nat.zero_add, Nat.zero_or, Nat.or_zero, nle_f, nle_t, nlt_f, nlt_t, neq_f, neq_t, Bool.false_eq_true, eq_self, if_true, if_false, ite_true, ite_false, and_true, true_and, and_false, false_and, decide_true, decide_false, Bool.and_true, Bool.true_and, Bool.and_false, Bool.false_and, Bool.or_false, Bool.false_or, Bool.or_true, Bool.true_or, Bool.not_true, Bool.not_false, not_true_eq_false, not_false_eq_true, q1 a hab]) c 0 M F (by omega) (by omega) ⟨fun _ _ => rfl, fun j hj => absurd hj (Nat.not_lt_zero _)⟩
  refine ⟨s, ?_, h1, h2⟩
  unfold f_X8_copyRow
  have e : (if Int32.ofNat c < Int32.ofNat c then Int32.ofNat c else Int32.ofNat c) = nI c := by
    rw [ite_self]; rfl
  rw [e]
  refine h3.trans ?_
  obtain ⟨n', e2⟩ : ∃ n', F - c = n' + 1 := ⟨F - c - 1, by omega⟩
  rw [e2]
  show f_X8_copyRow_h10_b _ _ _ _ _ _ _ _ _ = _
  unfold f_X8_copyRow_h10_b
  simp (disch := omega) only [pn_lt, pn_ltM, pl_ofN, ↓pl_m1, pl_lit, fa_litL, pn_bs, ck_n, ckh_n, ck_t, ckh_t, nI_add, nI_clamp, nI_ltI, nI_leI, nI_eq, m1_eq, m1_eq2, m1_lt, m1_le, m1_lt2, m1_le2, m1_m1, nI_m1, nI_subn, gb_n, Nat.add_zero, Nat.zero_add, Nat.zero_or, Nat.or_zero, nle_f, nle_t, nlt_f, nlt_t, neq_f, neq_t, Bool.false_eq_true, eq_self, if_true, if_false, ite_true, ite_false, and_true, true_and, and_false, false_and, decide_true, decide_false, Bool.and_true, Bool.true_and, Bool.and_false, Bool.false_and, Bool.or_false, Bool.false_or, Bool.or_true, Bool.true_or, Bool.not_true, Bool.not_false, not_true_eq_false, not_false_eq_true]
theorem e9_copy {F x y : Nat} (hF : 4000 ≤ F) (hx : x + 40 ≤ 160) (hy : y + 40 ≤ 160) (hxy : x + 40 ≤ y ∨ y + 40 ≤ x) (M : gM) : ∃ M', f_X9_copy F (nI x) (nI y) M = some M' ∧ (∀ k, k ≠ 96 → M' k = M k) ∧ (∀ j, j < 40 → M' 96 (y + j) = M 96 (x + j)) ∧ ∀ j, (j < y ∨ y + 40 ≤ j) → M' 96 j = M 96 j := by
  obtain ⟨s, ⟨h1, h2, h4⟩, h3⟩ := up_inv (fun n i (N : gM) => f_X9_copy_h2 F (nI x) (nI y) n (nI i) N) 40 (fun i N => (∀ k, k ≠ 96 → N k = M k) ∧ (∀ j, j < i → N 96 (y + j) = M 96 (x + j)) ∧ ∀ j, (j < y ∨ y + 40 ≤ j) → N 96 j = M 96 j) (by
    rintro n i N hi ⟨q1, q2, q3⟩
    refine ⟨gst N 96 (y + i) (M 96 (x + i)), ⟨fun k hk => ?_, fun j hj => ?_, fun j hj => ?_⟩, ?_⟩
    · rw [gst_ne _ _ _ _ hk, q1 k hk]
    · rw [gst_v]
      by_cases e : j = i
      · rw [if_pos ⟨rfl, by omega⟩, e]
      · rw [if_neg (by omega)]
        exact q2 j (by omega)
    · rw [gst_v, if_neg (by omega)]
      exact q3 j hj
    · show f_X9_copy_h2_b _ _ _ _ _ _ = _
      unfold f_X9_copy_h2_b
      have := q3 (x + i) (by omega)
      simp (disch := omega) only [pn_lt, pn_ltM, pl_ofN, ↓pl_m1, pl_lit, fa_litL, pn_bs, ck_n, ckh_n, ck_t, ckh_t, nI_add, nI_clamp, nI_ltI, nI_leI, nI_eq, m1_eq, m1_eq2, m1_lt, m1_le, m1_lt2, m1_le2, m1_m1, nI_m1, nI_subn, gb_n, Nat.add_zero, Nat.zero_add, Nat.zero_or, Nat.or_zero, nle_f, nle_t, nlt_f, nlt_t, neq_f, neq_t, Bool.false_eq_true, eq_self, if_true, if_false, ite_true, ite_false, and_true, true_and, and_false, false_and, decide_true, decide_false, Bool.and_true, Bool.true_and, Bool.and_false, Bool.false_and, Bool.or_false, Bool.false_or, Bool.or_true, Bool.true_or, Bool.not_true, Bool.not_false, not_true_eq_false, not_false_eq_true, this]) 40 0 M F (by omega) (by omega) ⟨fun _ _ => rfl, fun j hj => absurd hj (Nat.not_lt_zero _), fun _ _ => rfl⟩
  refine ⟨s, ?_, h1, h2, h4⟩
  unfold f_X9_copy
  refine h3.trans ?_
  obtain ⟨n', e2⟩ : ∃ n', F - 40 = n' + 1 := ⟨F - 41, by omega⟩
  rw [e2]
  show f_X9_copy_h2_b _ _ _ _ _ _ = _
  unfold f_X9_copy_h2_b
  simp (disch := omega) only [pn_lt, pn_ltM, pl_ofN, ↓pl_m1, pl_lit, fa_litL, pn_bs, ck_n, ckh_n, ck_t, ckh_t, nI_add, nI_clamp, nI_ltI, nI_leI, nI_eq, m1_eq, m1_eq2, m1_lt, m1_le, m1_lt2, m1_le2, m1_m1, nI_m1, nI_subn, gb_n, Nat.add_zero, Nat.zero_add, Nat.zero_or, Nat.or_zero, nle_f, nle_t, nlt_f, nlt_t, neq_f, neq_t, Bool.false_eq_true, eq_self, if_true, if_false, ite_true, ite_false, and_true, true_and, and_false, false_and, decide_true, decide_false, Bool.and_true, Bool.true_and, Bool.and_false, Bool.false_and, Bool.or_false, Bool.false_or, Bool.or_true, Bool.true_or, Bool.not_true, Bool.not_false, not_true_eq_false, not_false_eq_true]
/-- a state copied: from object a to object t (and the three rows behind each) -/
theorem e5_copy {F a t : Nat} (hF : 4000 ≤ F) (hat : a + 3 < t ∨ t + 3 < a) (hra : rf a 0 = a + 1 ∧ rf a 1 = a + 2 ∧ rf a 2 = a + 3) (hrt : rf t 0 = t + 1 ∧ rf t 1 = t + 2 ∧ rf t 2 = t + 3) (M : gM) : ∃ M', f_X5_copyFrom F t a M = some M' ∧ (∀ k, (k < t ∨ t + 3 < k) → M' k = M k) ∧ (∀ j, j < 10 → M' (t + 1) j = M (a + 1) j ∧ M' (t + 2) j = M (a + 2) j ∧ M' (t + 3) j = M (a + 3) j) ∧ M' t 3 = M a 3 ∧ M' t 4 = M a 4 ∧ M' t 5 = M a 5 ∧ M' t 6 = M a 6 := by
  unfold f_X5_copyFrom
  rw [hra.1, hra.2.1, hra.2.2, hrt.1, hrt.2.1, hrt.2.2]
  obtain ⟨N1, e1, f1, g1⟩ := e8_copy (a := a + 1) (b := t + 1) (c := 10) hF (by omega) (by omega) M
  obtain ⟨N2, e2, f2, g2⟩ := e8_copy (a := a + 2) (b := t + 2) (c := 10) hF (by omega) (by omega) N1
  obtain ⟨N3, e3, f3, g3⟩ := e8_copy (a := a + 3) (b := t + 3) (c := 10) hF (by omega) (by omega) N2
  rw [e1, Option.bind_some, e2, Option.bind_some, e3, Option.bind_some]
  refine ⟨_, rfl, fun k hk => ?_, fun j hj => ⟨?_, ?_, ?_⟩, ?_, ?_, ?_, ?_⟩
  · rw [gst_ne _ _ _ _ (by omega), gst_ne _ _ _ _ (by omega), gst_ne _ _ _ _ (by omega), gst_ne _ _ _ _ (by omega), f3 _ (by omega), f2 _ (by omega), f1 _ (by omega)]
  · rw [gst_ne _ _ _ _ (by omega), gst_ne _ _ _ _ (by omega), gst_ne _ _ _ _ (by omega), gst_ne _ _ _ _ (by omega), f3 _ (by omega), f2 _ (by omega), g1 _ hj]
  · rw [gst_ne _ _ _ _ (by omega), gst_ne _ _ _ _ (by omega), gst_ne _ _ _ _ (by omega), gst_ne _ _ _ _ (by omega), f3 _ (by omega), g2 _ hj, f1 _ (by omega)]
  · rw [gst_ne _ _ _ _ (by omega), gst_ne _ _ _ _ (by omega), gst_ne _ _ _ _ (by omega), gst_ne _ _ _ _ (by omega), g3 _ hj, f2 _ (by omega), f1 _ (by omega)]
  all_goals
    rw [gst_v, gst_v, gst_v, gst_v]
    have ea : N3 a = M a := by rw [f3 _ (by omega), f2 _ (by omega), f1 _ (by omega)]
    simp (disch := omega) only [pn_lt, pn_ltM, pl_ofN, ↓pl_m1, pl_lit, fa_litL, pn_bs, ck_n, ckh_n, ck_t, ckh_t, nI_add, nI_clamp, nI_ltI, nI_leI, nI_eq, m1_eq, m1_eq2, m1_lt, m1_le, m1_lt2, m1_le2, m1_m1, nI_m1, nI_subn, gb_n, Nat.add_zero, Nat.zero_add, Nat.zero_or, Nat.or_zero, nle_f, nle_t, nlt_f, nlt_t, neq_f, neq_t, Bool.false_eq_true, eq_self, if_true, if_false, ite_true, ite_false, and_true, true_and, and_false, false_and, decide_true, decide_false, Bool.and_true, Bool.true_and, Bool.and_false, Bool.false_and, Bool.or_false, Bool.false_or, Bool.or_true, Bool.true_or, Bool.not_true, Bool.not_false, not_true_eq_false, not_false_eq_true, gst_v, ea]
