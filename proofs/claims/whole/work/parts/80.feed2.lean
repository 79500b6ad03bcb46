/-! feed: the call -/
theorem q_feed {F : Nat} (hF : 4000 ≤ F) (a : Int32) (x : Int64) (M : gM) (h : qR M) : eqW (f_X8_feed F a x M) (f_X9_feed F a x) := by
  obtain ⟨D, hW, hC⟩ := id h
  obtain ⟨w1, w2, w3, w4⟩ := id hW
  obtain ⟨hT, hS, hX, hL, hG, hB, hFI, hb⟩ := id hC
  have hn := w1.1
  have hout : (a < nI 1 ∨ nI 8 < a) → eqW (f_X8_feed F a x M) (f_X9_feed F a x) := by
    intro h0
    refine ⟨-nI 1000000002, M, M, ?_, ?_, h⟩
    · unfold f_X8_feed
      rcases h0 with h0 | h0
      · simp (disch := omega) only [pn_lt, pn_ltM, pl_ofN, ↓pl_m1, pl_lit, fa_litL, pn_bs, ck_n, ckh_n, ck_t, ckh_t, nI_add, nI_clamp, nI_ltI, nI_leI, nI_eq, m1_eq, m1_eq2, m1_lt, m1_le, m1_lt2, m1_le2, m1_m1, nI_m1, nI_subn, gb_n, Nat.add_zero, Nat.zero_add, Nat.zero_or, Nat.or_zero, nle_f, nle_t, nlt_f, nlt_t, neq_f, neq_t, Bool.false_eq_true, eq_self, if_true, if_false, ite_true, ite_false, and_true, true_and, and_false, false_and, decide_true, decide_false, Bool.and_true, Bool.true_and, Bool.and_false, Bool.false_and, Bool.or_false, Bool.false_or, Bool.or_true, Bool.true_or, Bool.not_true, Bool.not_false, not_true_eq_false, not_false_eq_true, i_lt h0]
      · have h1 : (a < nI 1) = False := eq_false (fun q => by
          rw [fa_lt, nI_toInt (by omega)] at h0 q
          omega)
        simp (disch := omega) only [pn_lt, pn_ltM, pl_ofN, ↓pl_m1, pl_lit, fa_litL, pn_bs, ck_n, ckh_n, ck_t, ckh_t, nI_add, nI_clamp, nI_ltI, nI_leI, nI_eq, m1_eq, m1_eq2, m1_lt, m1_le, m1_lt2, m1_le2, m1_m1, nI_m1, nI_subn, gb_n, Nat.add_zero, Nat.zero_add, Nat.zero_or, Nat.or_zero, nle_f, nle_t, nlt_f, nlt_t, neq_f, neq_t, Bool.false_eq_true, eq_self, if_true, if_false, ite_true, ite_false, and_true, true_and, and_false, false_and, decide_true, decide_false, Bool.and_true, Bool.true_and, Bool.and_false, Bool.false_and, Bool.or_false, Bool.false_or, Bool.or_true, Bool.true_or, Bool.not_true, Bool.not_false, not_true_eq_false, not_false_eq_true, h1, i_nle h0]
    · unfold f_X9_feed
      rcases h0 with h0 | h0
      · simp (disch := omega) only [pn_lt, pn_ltM, pl_ofN, ↓pl_m1, pl_lit, fa_litL, pn_bs, ck_n, ckh_n, ck_t, ckh_t, nI_add, nI_clamp, nI_ltI, nI_leI, nI_eq, m1_eq, m1_eq2, m1_lt, m1_le, m1_lt2, m1_le2, m1_m1, nI_m1, nI_subn, gb_n, Nat.add_zero, Nat.zero_add, Nat.zero_or, Nat.or_zero, nle_f, nle_t, nlt_f, nlt_t, neq_f, neq_t, Bool.false_eq_true, eq_self, if_true, if_false, ite_true, ite_false, and_true, true_and, and_false, false_and, decide_true, decide_false, Bool.and_true, Bool.true_and, Bool.and_false, Bool.false_and, Bool.or_false, Bool.false_or, Bool.or_true, Bool.true_or, Bool.not_true, Bool.not_false, not_true_eq_false, not_false_eq_true, e9_inL, i_nle h0]
      · simp (disch := omega) only [pn_lt, pn_ltM, pl_ofN, ↓pl_m1, pl_lit, fa_litL, pn_bs, ck_n, ckh_n, ck_t, ckh_t, nI_add, nI_clamp, nI_ltI, nI_leI, nI_eq, m1_eq, m1_eq2, m1_lt, m1_le, m1_lt2, m1_le2, m1_m1, nI_m1, nI_subn, gb_n, Nat.add_zero, Nat.zero_add, Nat.zero_or, Nat.or_zero, nle_f, nle_t, nlt_f, nlt_t, neq_f, neq_t, Bool.false_eq_true, eq_self, if_true, if_false, ite_true, ite_false, and_true, true_and, and_false, false_and, decide_true, decide_false, Bool.and_true, Bool.true_and, Bool.and_false, Bool.false_and, Bool.or_false, Bool.false_or, Bool.or_true, Bool.true_or, Bool.not_true, Bool.not_false, not_true_eq_false, not_false_eq_true, e9_inL, i_nle h0]
  rcases rg_le a 8 (by omega) with h0 | h0 | ⟨n, hn8, rfl⟩
  · refine hout (.inl ?_)
    rw [fa_lt, nI_toInt (by omega)] at h0 ⊢
    omega
  · exact hout (.inr h0)
  · by_cases hn0 : n = 0
    · subst hn0
      refine hout (.inl ?_)
      rw [nI_ltI (by omega) (by omega)]
      omega
    · by_cases hf : D 0 3 + n ≤ 400
      · obtain ⟨M1, r1, r2, r3, r4, r5⟩ := e8_feed (tl := D 0 3) hF (by omega) hn8 hf x M hX.1
        have e14 : M1 95 14 = nI (D 0 3) := by rw [r2 _ (by omega) (by omega)]; exact hX.2.1
        obtain ⟨M2, s1, s2, s3, s4, s5, s6⟩ := e9_feed (tl := D 0 3) hF (by omega) hn8 hf x M1 e14
        have fr : ∀ k j, k ≠ 1 → k ≠ 2 → ¬ (k = 95 ∧ j = 14) → k ≠ 109 → M2 k j = M k j := fun k j q1 q2 q3 q4 => by
          by_cases e : k = 95
          · subst e
            rw [s3 j (by omega), r2 _ q1 q2]
          · rw [s2 k e q4, r2 _ q1 q2]
        refine ⟨nI (D 0 3 + n), M1, M2, r1, s1, fun c i => if c = 12 ∧ D 0 3 ≤ i then fd_by x (n - 1 - (i - D 0 3)) else if c = 0 ∧ i = 3 then D 0 3 + n else D c i, ⟨?_, ?_, ?_, ?_⟩, ?_, ?_, ?_, ?_, ?_, ?_, ?_, ?_⟩
        · exact qBT_D w1 (fun c i q => by show (if _ then _ else _) = _; rw [if_neg (by omega), if_neg (by omega)])
        · exact qBL_D w2 (fun c i q => by show (if _ then _ else _) = _; rw [if_neg (by omega), if_neg (by omega)])
        · obtain ⟨x1, x2, x3, x4, x5, x6⟩ := id w3
          refine ⟨?_, ?_, ?_, ?_, ?_, ?_⟩
          · show (if _ then _ else _) ≤ _
            rw [if_neg (by omega), if_pos ⟨rfl, rfl⟩]
            exact hf
          · exact x2
          · exact x3
          · intro i hi
            show (if _ then _ else _) ≤ _
            by_cases e : D 0 3 ≤ i
            · rw [if_pos ⟨rfl, e⟩]
              exact fd_le _ _
            · rw [if_neg (by omega), if_neg (by omega)]
              exact x4 i (by omega)
          · exact x5
          · exact x6
        · exact qBV_D w4 (fun c i q => by show (if _ then _ else _) = _; rw [if_neg (by omega), if_neg (by omega)])
        · exact qTW_D (qTW_fr hT hn w1.2.1 (fun k j q => fr k j (by omega) (by omega) (by omega) (by omega))) (fun c i q => by show (if _ then _ else _) = _; rw [if_neg (by omega), if_neg (by omega)])
        · exact qSV_D (qSV_fr hS hn (fun k j q => fr k j (by omega) (by omega) (by omega) (by omega))) (fun c i q => by show (if _ then _ else _) = _; rw [if_neg (by omega), if_neg (by omega)])
        · have e3 : (if 0 = 12 ∧ D 0 3 ≤ 3 then fd_by x (n - 1 - (3 - D 0 3)) else if 0 = 0 ∧ 3 = 3 then D 0 3 + n else D 0 3) = D 0 3 + n := by
            rw [if_neg (by omega), if_pos ⟨rfl, rfl⟩]
          refine ⟨?_, ?_, fun i hi => ?_⟩
          · rw [s2 _ (by omega) (by omega), r3]
            exact congrArg nI e3.symm
          · rw [s4]
            exact congrArg nI e3.symm
          · have hi' : i < D 0 3 + n := by
              have := hi
              dsimp only at this
              rw [e3] at this
              exact this
            rw [s2 2 (by omega) (by omega)]
            dsimp only
            by_cases e : D 0 3 ≤ i
            · rw [if_pos ⟨rfl, e⟩]
              have t1 := r5 (i - D 0 3) (by omega)
              have t2 := s6 (i - D 0 3) (by omega)
              rw [show D 0 3 + (i - D 0 3) = i by omega] at t1 t2
              exact ⟨t1, t2⟩
            · rw [if_neg (by omega), if_neg (by omega), r4 i (by omega), s5 i (by omega), r2 _ (by omega) (by omega)]
              exact hX.2.2 i (by omega)
        · exact qLK_D (qLK_fr hL (fun k j q => fr k j (by omega) (by omega) (by omega) (by omega))) (fun c i q => by show (if _ then _ else _) = _; rw [if_neg (by omega), if_neg (by omega)])
        · exact qSG_D (qSG_fr hG (fun k j q => fr k j (by omega) (by omega) (by omega) (by omega))) (fun c i q => by show (if _ then _ else _) = _; rw [if_neg (by omega), if_neg (by omega)])
        · exact qBK_D (qBK_fr hB (fun k j q => fr k j (by omega) (by omega) (by omega) (by omega))) (fun c i q => by show (if _ then _ else _) = _; rw [if_neg (by omega), if_neg (by omega)])
        · exact qFI_fr hFI hn (fun k j q => fr k j (by omega) (by omega) (by omega) (by omega))
        · rw [fr _ _ (by omega) (by omega) (by omega) (by omega)]
          exact hb
      · have e1 := hX.1
        have e2 := hX.2.1
        have x1 := w3.1
        refine ⟨-nI 1000000004, M, M, ?_, ?_, h⟩
        · unfold f_X8_feed
          simp (disch := omega) only [pn_lt, pn_ltM, pl_ofN, ↓pl_m1, pl_lit, fa_litL, pn_bs, ck_n, ckh_n, ck_t, ckh_t, nI_add, nI_clamp, nI_ltI, nI_leI, nI_eq, m1_eq, m1_eq2, m1_lt, m1_le, m1_lt2, m1_le2, m1_m1, nI_m1, nI_subn, gb_n, Nat.add_zero, Nat.zero_add, Nat.zero_or, Nat.or_zero, nle_f, nle_t, nlt_f, nlt_t, neq_f, neq_t, Bool.false_eq_true, eq_self, if_true, if_false, ite_true, ite_false, and_true, true_and, and_false, false_and, decide_true, decide_false, Bool.and_true, Bool.true_and, Bool.and_false, Bool.false_and, Bool.or_false, Bool.false_or, Bool.or_true, Bool.true_or, Bool.not_true, Bool.not_false, not_true_eq_false, not_false_eq_true, e1]
        · unfold f_X9_feed
          simp (disch := omega) only [pn_lt, pn_ltM, pl_ofN, ↓pl_m1, pl_lit, fa_litL, pn_bs, ck_n, ckh_n, ck_t, ckh_t, nI_add, nI_clamp, nI_ltI, nI_leI, nI_eq, m1_eq, m1_eq2, m1_lt, m1_le, m1_lt2, m1_le2, m1_m1, nI_m1, nI_subn, gb_n, Nat.add_zero, Nat.zero_add, Nat.zero_or, Nat.or_zero, nle_f, nle_t, nlt_f, nlt_t, neq_f, neq_t, Bool.false_eq_true, eq_self, if_true, if_false, ite_true, ite_false, and_true, true_and, and_false, false_and, decide_true, decide_false, Bool.and_true, Bool.true_and, Bool.and_false, Bool.false_and, Bool.or_false, Bool.false_or, Bool.or_true, Bool.true_or, Bool.not_true, Bool.not_false, not_true_eq_false, not_false_eq_true, e9_inL, e2]
