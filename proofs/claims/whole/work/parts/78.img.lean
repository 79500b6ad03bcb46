/-! images -/
theorem qSV_cp {n : Nat} {D : Nat → Nat → Nat} {M M' : gM} {t w t' w' : Nat} (h : qSV n D M t w) (hn : n ≤ 10) (e3 : M' t' 3 = M t 3) (e4 : M' t' 4 = M t 4) (e5 : M' t' 5 = M t 5) (e6 : M' t' 6 = M t 6)
    (er : ∀ j, j < 10 → M' (t' + 1) j = M (t + 1) j ∧ M' (t' + 2) j = M (t + 2) j ∧ M' (t' + 3) j = M (t + 3) j) (ew : ∀ j, j < 40 → M' 96 (w' + j) = M 96 (w + j)) : qSV n D M' t' w' := by
  obtain ⟨h1, h2, h3, h4, h5, h6, h7, h8, h9⟩ := h
  refine ⟨e3.trans h1, e5.trans h2, e6.trans h3, (ew _ (by omega)).trans h4, (ew _ (by omega)).trans h5, (ew _ (by omega)).trans h6, ((ew _ (by omega)).trans h7).trans e4.symm, fun p hp => ?_, fun p hp => (er p hp).2.2.trans (h9 p hp)⟩
  obtain ⟨a1, a2, a3, a4, a5⟩ := h8 p hp
  obtain ⟨r1, r2, r3⟩ := er p (by omega)
  exact ⟨r1.trans a1, r2.trans a2, (ew _ (by omega)).trans a3, (ew _ (by omega)).trans a4, (ew _ (by omega)).trans a5⟩
theorem rf_img (i : Nat) (hi : i < 2) : rf (30 + 4 * i) 0 = 30 + 4 * i + 1 ∧ rf (30 + 4 * i) 1 = 30 + 4 * i + 2 ∧ rf (30 + 4 * i) 2 = 30 + 4 * i + 3 := by
  rcases (by omega : i = 0 ∨ i = 1) with h | h <;> subst h <;> exact ⟨rfl, rfl, rfl⟩
theorem e8_img {i : Nat} (hi : i < 2) (M : gM) : f_X8_imageAt (nI i) M = some (30 + 4 * i) ∧ decide (kd (30 + 4 * i) = gKo 5) = true := by
  rcases (by omega : i = 0 ∨ i = 1) with h | h <;> subst h <;> refine ⟨?_, by decide +kernel⟩ <;> unfold f_X8_imageAt <;> simp (disch := omega) only [pn_lt, pn_ltM, pl_ofN, ↓pl_m1, pl_lit, fa_litL, pn_bs, ck_n, ckh_n, ck_t, ckh_t, nI_add, nI_clamp, nI_ltI, nI_leI, nI_eq, m1_eq, m1_eq2, m1_lt, m1_le, m1_lt2, m1_le2, m1_m1, nI_m1, nI_subn, gb_n, Nat.add_zero, Nat.zero_add, Nat.zero_or, Nat.or_zero, nle_f, nle_t, nlt_f, nlt_t, neq_f, neq_t, Bool.false_eq_true, eq_self, if_true, if_false, ite_true, ite_false, and_true, true_and, and_false, false_and, decide_true, decide_false, Bool.and_true, Bool.true_and, Bool.and_false, Bool.false_and, Bool.or_false, Bool.false_or, Bool.or_true, Bool.true_or, Bool.not_true, Bool.not_false, not_true_eq_false, not_false_eq_true]
theorem q_keep {F : Nat} (hF : 4000 ≤ F) (a : Int32) (M : gM) (h : qR M) : eqW (f_X8_keep F a M) (f_X9_keep F a) := by
  obtain ⟨D, hW, hC⟩ := id h
  have hn := hW.1.1
  unfold eqW f_X8_keep f_X9_keep
  rcases rg_le a 1 (by omega) with h0 | h0 | ⟨i, hi, rfl⟩
  · exact ⟨-nI 1000000001, M, M, by simp (disch := omega) only [pn_lt, pn_ltM, pl_ofN, ↓pl_m1, pl_lit, fa_litL, pn_bs, ck_n, ckh_n, ck_t, ckh_t, nI_add, nI_clamp, nI_ltI, nI_leI, nI_eq, m1_eq, m1_eq2, m1_lt, m1_le, m1_lt2, m1_le2, m1_m1, nI_m1, nI_subn, gb_n, Nat.add_zero, Nat.zero_add, Nat.zero_or, Nat.or_zero, nle_f, nle_t, nlt_f, nlt_t, neq_f, neq_t, Bool.false_eq_true, eq_self, if_true, if_false, ite_true, ite_false, and_true, true_and, and_false, false_and, decide_true, decide_false, Bool.and_true, Bool.true_and, Bool.and_false, Bool.false_and, Bool.or_false, Bool.false_or, Bool.or_true, Bool.true_or, Bool.not_true, Bool.not_false, not_true_eq_false, not_false_eq_true, i_lt h0], by simp (disch := omega) only [pn_lt, pn_ltM, pl_ofN, ↓pl_m1, pl_lit, fa_litL, pn_bs, ck_n, ckh_n, ck_t, ckh_t, nI_add, nI_clamp, nI_ltI, nI_leI, nI_eq, m1_eq, m1_eq2, m1_lt, m1_le, m1_lt2, m1_le2, m1_m1, nI_m1, nI_subn, gb_n, Nat.add_zero, Nat.zero_add, Nat.zero_or, Nat.or_zero, nle_f, nle_t, nlt_f, nlt_t, neq_f, neq_t, Bool.false_eq_true, eq_self, if_true, if_false, ite_true, ite_false, and_true, true_and, and_false, false_and, decide_true, decide_false, Bool.and_true, Bool.true_and, Bool.and_false, Bool.false_and, Bool.or_false, Bool.false_or, Bool.or_true, Bool.true_or, Bool.not_true, Bool.not_false, not_true_eq_false, not_false_eq_true, e9_inL, i_nle h0], h⟩
  · have h2 : (a < nI 2) = False := eq_false (fun q => by
      rw [fa_lt, nI_toInt (by omega)] at h0 q
      omega)
    exact ⟨-nI 1000000001, M, M, by simp (disch := omega) only [pn_lt, pn_ltM, pl_ofN, ↓pl_m1, pl_lit, fa_litL, pn_bs, ck_n, ckh_n, ck_t, ckh_t, nI_add, nI_clamp, nI_ltI, nI_leI, nI_eq, m1_eq, m1_eq2, m1_lt, m1_le, m1_lt2, m1_le2, m1_m1, nI_m1, nI_subn, gb_n, Nat.add_zero, Nat.zero_add, Nat.zero_or, Nat.or_zero, nle_f, nle_t, nlt_f, nlt_t, neq_f, neq_t, Bool.false_eq_true, eq_self, if_true, if_false, ite_true, ite_false, and_true, true_and, and_false, false_and, decide_true, decide_false, Bool.and_true, Bool.true_and, Bool.and_false, Bool.false_and, Bool.or_false, Bool.false_or, Bool.or_true, Bool.true_or, Bool.not_true, Bool.not_false, not_true_eq_false, not_false_eq_true, i_lt0 h0, h2], by simp (disch := omega) only [pn_lt, pn_ltM, pl_ofN, ↓pl_m1, pl_lit, fa_litL, pn_bs, ck_n, ckh_n, ck_t, ckh_t, nI_add, nI_clamp, nI_ltI, nI_leI, nI_eq, m1_eq, m1_eq2, m1_lt, m1_le, m1_lt2, m1_le2, m1_m1, nI_m1, nI_subn, gb_n, Nat.add_zero, Nat.zero_add, Nat.zero_or, Nat.or_zero, nle_f, nle_t, nlt_f, nlt_t, neq_f, neq_t, Bool.false_eq_true, eq_self, if_true, if_false, ite_true, ite_false, and_true, true_and, and_false, false_and, decide_true, decide_false, Bool.and_true, Bool.true_and, Bool.and_false, Bool.false_and, Bool.or_false, Bool.false_or, Bool.or_true, Bool.true_or, Bool.not_true, Bool.not_false, not_true_eq_false, not_false_eq_true, e9_inL, i_nle h0], h⟩
  · obtain ⟨M1, k1, k2, k3, k4, k5, k6, k7⟩ := e5_copy (a := 26) (t := 30 + 4 * i) hF (by omega) ⟨rfl, rfl, rfl⟩ (rf_img i (by omega)) M
    obtain ⟨v1, v2⟩ := e8_img (i := i) (by omega) M
    obtain ⟨M2, l1, l2, l3, l4⟩ := e9_copy (x := 0) (y := 80 + 40 * i) hF (by omega) (by omega) (by omega) (gst M1 38 i (nI 1 &&& nI 1))
    have e1 : nI 1 &&& nI 1 = nI 1 := by decide +kernel
    rw [e1] at l1 l2 l3 l4
    refine ⟨nI 1, gst M1 38 i (nI 1), gst M2 97 i (nI 1), ?_, ?_, D, hW, ?_⟩
    · simp (disch := omega) only [pn_lt, pn_ltM, pl_ofN, ↓pl_m1, pl_lit, fa_litL, pn_bs, ck_n, ckh_n, ck_t, ckh_t, nI_add, nI_clamp, nI_ltI, nI_leI, nI_eq, m1_eq, m1_eq2, m1_lt, m1_le, m1_lt2, m1_le2, m1_m1, nI_m1, nI_subn, gb_n, Nat.add_zero, Nat.zero_add, Nat.zero_or, Nat.or_zero, nle_f, nle_t, nlt_f, nlt_t, neq_f, neq_t, Bool.false_eq_true, eq_self, if_true, if_false, ite_true, ite_false, and_true, true_and, and_false, false_and, decide_true, decide_false, Bool.and_true, Bool.true_and, Bool.and_false, Bool.false_and, Bool.or_false, Bool.false_or, Bool.or_true, Bool.true_or, Bool.not_true, Bool.not_false, not_true_eq_false, not_false_eq_true, v1, v2, k1, e1]
    · have e2 : nI 80 + nI 40 * nI i = nI (80 + 40 * i) := by rw [pk_mul, nI_add]
      simp (disch := omega) only [pn_lt, pn_ltM, pl_ofN, ↓pl_m1, pl_lit, fa_litL, pn_bs, ck_n, ckh_n, ck_t, ckh_t, nI_add, nI_clamp, nI_ltI, nI_leI, nI_eq, m1_eq, m1_eq2, m1_lt, m1_le, m1_lt2, m1_le2, m1_m1, nI_m1, nI_subn, gb_n, Nat.add_zero, Nat.zero_add, Nat.zero_or, Nat.or_zero, nle_f, nle_t, nlt_f, nlt_t, neq_f, neq_t, Bool.false_eq_true, eq_self, if_true, if_false, ite_true, ite_false, and_true, true_and, and_false, false_and, decide_true, decide_false, Bool.and_true, Bool.true_and, Bool.and_false, Bool.false_and, Bool.or_false, Bool.false_or, Bool.or_true, Bool.true_or, Bool.not_true, Bool.not_false, not_true_eq_false, not_false_eq_true, e9_inL, e2, l1, e1]
    · obtain ⟨hT, hS, hX, hL, hG, hB, hFI, hb⟩ := hC
      have fr : ∀ k j, ¬ (30 + 4 * i ≤ k ∧ k ≤ 33 + 4 * i) → ¬ (k = 38 ∧ j = i) → ¬ (k = 97 ∧ j = i) → ¬ (k = 96 ∧ 80 + 40 * i ≤ j ∧ j < 120 + 40 * i) → gst M2 97 i (nI 1) k j = M k j := fun k j q1 q2 q3 q4 => by
        rw [gst_v, if_neg (by omega)]
        by_cases e : k = 96
        · subst e
          rw [l4 j (by omega), gst_v, if_neg (by omega), k2 _ (by omega)]
        · rw [l2 k e, gst_v, if_neg (by omega), k2 _ (by omega)]
      refine ⟨qTW_fr hT hn hW.1.2.1 (fun k j q => fr k j (by omega) (by omega) (by omega) (by omega)), qSV_fr hS hn (fun k j q => fr k j (by omega) (by omega) (by omega) (by omega)), qTX_fr hX (fun k j q => fr k j (by omega) (by omega) (by omega) (by omega)), qLK_fr hL (fun k j q => fr k j (by omega) (by omega) (by omega) (by omega)), qSG_fr hG (fun k j q => fr k j (by omega) (by omega) (by omega) (by omega)), qBK_fr hB (fun k j q => fr k j (by omega) (by omega) (by omega) (by omega)), ⟨?_, ?_⟩, ?_⟩
      · rw [fr _ _ (by omega) (by omega) (by omega) (by omega), fr _ _ (by omega) (by omega) (by omega) (by omega)]
        exact hFI.1
      · intro j hj
        by_cases e : j = i
        · subst e
          have a97 : gst M2 97 j (nI 1) 97 j = nI 1 := by rw [gst_v, if_pos ⟨rfl, rfl⟩]
          have a38 : gst M2 97 j (nI 1) 38 j = nI 1 := by rw [gst_v, if_neg (by omega), l2 _ (by omega), gst_v, if_pos ⟨rfl, rfl⟩]
          refine ⟨by rw [a97, a38], .inr a38, fun _ => ⟨D, hW.2.2.2, qSV_cp hS hn ?_ ?_ ?_ ?_ (fun m hm => ?_) (fun m hm => ?_)⟩⟩
          · rw [gst_v, if_neg (by omega), l2 _ (by omega), gst_v, if_neg (by omega), k4]
          · rw [gst_v, if_neg (by omega), l2 _ (by omega), gst_v, if_neg (by omega), k5]
          · rw [gst_v, if_neg (by omega), l2 _ (by omega), gst_v, if_neg (by omega), k6]
          · rw [gst_v, if_neg (by omega), l2 _ (by omega), gst_v, if_neg (by omega), k7]
          · obtain ⟨r1, r2, r3⟩ := k3 m hm
            refine ⟨?_, ?_, ?_⟩
            · rw [gst_v, if_neg (by omega), l2 _ (by omega), gst_v, if_neg (by omega), r1]
            · rw [gst_v, if_neg (by omega), l2 _ (by omega), gst_v, if_neg (by omega), r2]
            · rw [gst_v, if_neg (by omega), l2 _ (by omega), gst_v, if_neg (by omega), r3]
          · rw [gst_v, if_neg (by omega), l3 m hm, gst_v, if_neg (by omega), k2 _ (by omega)]
        · obtain ⟨a1, a2, a3⟩ := hFI.2 j hj
          have a38 : gst M2 97 i (nI 1) 38 j = M 38 j := fr _ _ (by omega) (by omega) (by omega) (by omega)
          refine ⟨by rw [a38, fr 97 j (by omega) (by omega) (by omega) (by omega)]; exact a1, by rw [a38]; exact a2, fun q => ?_⟩
          rw [a38] at q
          obtain ⟨E, b1, b2⟩ := a3 q
          exact ⟨E, b1, qSV_fr b2 hn (fun k m q => fr k m (by omega) (by omega) (by omega) (by omega))⟩
      · rw [fr _ _ (by omega) (by omega) (by omega) (by omega)]
        exact hb
theorem q_goBack {F : Nat} (hF : 4000 ≤ F) (a : Int32) (M : gM) (h : qR M) : eqW (f_X8_goBack F a M) (f_X9_goBack F a) := by
  obtain ⟨D, hW, hC⟩ := id h
  have hn := hW.1.1
  unfold eqW f_X8_goBack f_X9_goBack
  rcases rg_le a 1 (by omega) with h0 | h0 | ⟨i, hi, rfl⟩
  · exact ⟨-nI 1000000001, M, M, by simp (disch := omega) only [pn_lt, pn_ltM, pl_ofN, ↓pl_m1, pl_lit, fa_litL, pn_bs, ck_n, ckh_n, ck_t, ckh_t, nI_add, nI_clamp, nI_ltI, nI_leI, nI_eq, m1_eq, m1_eq2, m1_lt, m1_le, m1_lt2, m1_le2, m1_m1, nI_m1, nI_subn, gb_n, Nat.add_zero, Nat.zero_add, Nat.zero_or, Nat.or_zero, nle_f, nle_t, nlt_f, nlt_t, neq_f, neq_t, Bool.false_eq_true, eq_self, if_true, if_false, ite_true, ite_false, and_true, true_and, and_false, false_and, decide_true, decide_false, Bool.and_true, Bool.true_and, Bool.and_false, Bool.false_and, Bool.or_false, Bool.false_or, Bool.or_true, Bool.true_or, Bool.not_true, Bool.not_false, not_true_eq_false, not_false_eq_true, i_lt h0], by simp (disch := omega) only [pn_lt, pn_ltM, pl_ofN, ↓pl_m1, pl_lit, fa_litL, pn_bs, ck_n, ckh_n, ck_t, ckh_t, nI_add, nI_clamp, nI_ltI, nI_leI, nI_eq, m1_eq, m1_eq2, m1_lt, m1_le, m1_lt2, m1_le2, m1_m1, nI_m1, nI_subn, gb_n, Nat.add_zero, Nat.zero_add, Nat.zero_or, Nat.or_zero, nle_f, nle_t, nlt_f, nlt_t, neq_f, neq_t, Bool.false_eq_true, eq_self, if_true, if_false, ite_true, ite_false, and_true, true_and, and_false, false_and, decide_true, decide_false, Bool.and_true, Bool.true_and, Bool.and_false, Bool.false_and, Bool.or_false, Bool.false_or, Bool.or_true, Bool.true_or, Bool.not_true, Bool.not_false, not_true_eq_false, not_false_eq_true, e9_inL, i_nle h0], h⟩
  · have h2 : (a < nI 2) = False := eq_false (fun q => by
      rw [fa_lt, nI_toInt (by omega)] at h0 q
      omega)
    exact ⟨-nI 1000000001, M, M, by simp (disch := omega) only [pn_lt, pn_ltM, pl_ofN, ↓pl_m1, pl_lit, fa_litL, pn_bs, ck_n, ckh_n, ck_t, ckh_t, nI_add, nI_clamp, nI_ltI, nI_leI, nI_eq, m1_eq, m1_eq2, m1_lt, m1_le, m1_lt2, m1_le2, m1_m1, nI_m1, nI_subn, gb_n, Nat.add_zero, Nat.zero_add, Nat.zero_or, Nat.or_zero, nle_f, nle_t, nlt_f, nlt_t, neq_f, neq_t, Bool.false_eq_true, eq_self, if_true, if_false, ite_true, ite_false, and_true, true_and, and_false, false_and, decide_true, decide_false, Bool.and_true, Bool.true_and, Bool.and_false, Bool.false_and, Bool.or_false, Bool.false_or, Bool.or_true, Bool.true_or, Bool.not_true, Bool.not_false, not_true_eq_false, not_false_eq_true, i_lt0 h0, h2], by simp (disch := omega) only [pn_lt, pn_ltM, pl_ofN, ↓pl_m1, pl_lit, fa_litL, pn_bs, ck_n, ckh_n, ck_t, ckh_t, nI_add, nI_clamp, nI_ltI, nI_leI, nI_eq, m1_eq, m1_eq2, m1_lt, m1_le, m1_lt2, m1_le2, m1_m1, nI_m1, nI_subn, gb_n, Nat.add_zero, Nat.zero_add, Nat.zero_or, Nat.or_zero, nle_f, nle_t, nlt_f, nlt_t, neq_f, neq_t, Bool.false_eq_true, eq_self, if_true, if_false, ite_true, ite_false, and_true, true_and, and_false, false_and, decide_true, decide_false, Bool.and_true, Bool.true_and, Bool.and_false, Bool.false_and, Bool.or_false, Bool.false_or, Bool.or_true, Bool.true_or, Bool.not_true, Bool.not_false, not_true_eq_false, not_false_eq_true, e9_inL, i_nle h0], h⟩
  · obtain ⟨a1, a2, a3⟩ := hC.2.2.2.2.2.2.1.2 i (by omega)
    obtain ⟨v1, v2⟩ := e8_img (i := i) (by omega) M
    rcases a2 with a2 | a2
    · have a2' : M 38 i = nI 0 := a2
      rw [a2'] at a1
      exact ⟨-nI 1000000003, M, M, by simp (disch := omega) only [pn_lt, pn_ltM, pl_ofN, ↓pl_m1, pl_lit, fa_litL, pn_bs, ck_n, ckh_n, ck_t, ckh_t, nI_add, nI_clamp, nI_ltI, nI_leI, nI_eq, m1_eq, m1_eq2, m1_lt, m1_le, m1_lt2, m1_le2, m1_m1, nI_m1, nI_subn, gb_n, Nat.add_zero, Nat.zero_add, Nat.zero_or, Nat.or_zero, nle_f, nle_t, nlt_f, nlt_t, neq_f, neq_t, Bool.false_eq_true, eq_self, if_true, if_false, ite_true, ite_false, and_true, true_and, and_false, false_and, decide_true, decide_false, Bool.and_true, Bool.true_and, Bool.and_false, Bool.false_and, Bool.or_false, Bool.false_or, Bool.or_true, Bool.true_or, Bool.not_true, Bool.not_false, not_true_eq_false, not_false_eq_true, a2'], by simp (disch := omega) only [pn_lt, pn_ltM, pl_ofN, ↓pl_m1, pl_lit, fa_litL, pn_bs, ck_n, ckh_n, ck_t, ckh_t, nI_add, nI_clamp, nI_ltI, nI_leI, nI_eq, m1_eq, m1_eq2, m1_lt, m1_le, m1_lt2, m1_le2, m1_m1, nI_m1, nI_subn, gb_n, Nat.add_zero, Nat.zero_add, Nat.zero_or, Nat.or_zero, nle_f, nle_t, nlt_f, nlt_t, neq_f, neq_t, Bool.false_eq_true, eq_self, if_true, if_false, ite_true, ite_false, and_true, true_and, and_false, false_and, decide_true, decide_false, Bool.and_true, Bool.true_and, Bool.and_false, Bool.false_and, Bool.or_false, Bool.false_or, Bool.or_true, Bool.true_or, Bool.not_true, Bool.not_false, not_true_eq_false, not_false_eq_true, e9_inL, a1], h⟩
    · have a2' : M 38 i = nI 1 := a2
      obtain ⟨E, b1, b2⟩ := a3 a2
      rw [a2'] at a1
      obtain ⟨M1, k1, k2, k3, k4, k5, k6, k7⟩ := e5_copy (a := 30 + 4 * i) (t := 26) hF (by omega) (rf_img i (by omega)) ⟨rfl, rfl, rfl⟩ M
      obtain ⟨M2, l1, l2, l3, l4⟩ := e9_copy (x := 80 + 40 * i) (y := 0) hF (by omega) (by omega) (by omega) M1
      have a1' : M1 97 i = nI 1 := by rw [k2 97 (by omega)]; exact a1
      refine ⟨nI 1, M1, M2, ?_, ?_, qR_state (D' := fun c j => if c = 0 ∧ (j = 4 ∨ j = 5 ∨ j = 10) ∨ 3 ≤ c ∧ c ≤ 5 then E c j else D c j) hW hC (fun k j _ q1 q2 => ?_) (fun c j q1 q2 => ?_) ?_ ?_⟩
      · simp (disch := omega) only [pn_lt, pn_ltM, pl_ofN, ↓pl_m1, pl_lit, fa_litL, pn_bs, ck_n, ckh_n, ck_t, ckh_t, nI_add, nI_clamp, nI_ltI, nI_leI, nI_eq, m1_eq, m1_eq2, m1_lt, m1_le, m1_lt2, m1_le2, m1_m1, nI_m1, nI_subn, gb_n, Nat.add_zero, Nat.zero_add, Nat.zero_or, Nat.or_zero, nle_f, nle_t, nlt_f, nlt_t, neq_f, neq_t, Bool.false_eq_true, eq_self, if_true, if_false, ite_true, ite_false, and_true, true_and, and_false, false_and, decide_true, decide_false, Bool.and_true, Bool.true_and, Bool.and_false, Bool.false_and, Bool.or_false, Bool.false_or, Bool.or_true, Bool.true_or, Bool.not_true, Bool.not_false, not_true_eq_false, not_false_eq_true, v1, v2, k1, a2']
      · have e2 : nI 80 + nI 40 * nI i = nI (80 + 40 * i) := by rw [pk_mul, nI_add]
        simp (disch := omega) only [pn_lt, pn_ltM, pl_ofN, ↓pl_m1, pl_lit, fa_litL, pn_bs, ck_n, ckh_n, ck_t, ckh_t, nI_add, nI_clamp, nI_ltI, nI_leI, nI_eq, m1_eq, m1_eq2, m1_lt, m1_le, m1_lt2, m1_le2, m1_m1, nI_m1, nI_subn, gb_n, Nat.add_zero, Nat.zero_add, Nat.zero_or, Nat.or_zero, nle_f, nle_t, nlt_f, nlt_t, neq_f, neq_t, Bool.false_eq_true, eq_self, if_true, if_false, ite_true, ite_false, and_true, true_and, and_false, false_and, decide_true, decide_false, Bool.and_true, Bool.true_and, Bool.and_false, Bool.false_and, Bool.or_false, Bool.false_or, Bool.or_true, Bool.true_or, Bool.not_true, Bool.not_false, not_true_eq_false, not_false_eq_true, e9_inL, e2, l1, a1']
      · by_cases e : k = 96
        · subst e
          rw [l4 j (by omega), k2 _ (by omega)]
        · rw [l2 k e, k2 _ (by omega)]
      · show (if _ then _ else _) = _
        rw [if_neg (by omega)]
      · refine qBV_D b1 (fun c j q => ?_)
        show (if _ then _ else _) = _
        rw [if_pos (by omega)]
      · refine qSV_D (qSV_cp b2 hn ?_ ?_ ?_ ?_ (fun m hm => ?_) (fun m hm => ?_)) (fun c j q => ?_)
        · rw [l2 _ (by omega), k4]
        · rw [l2 _ (by omega), k5]
        · rw [l2 _ (by omega), k6]
        · rw [l2 _ (by omega), k7]
        · rw [l2 _ (by omega), l2 _ (by omega), l2 _ (by omega)]
          exact k3 m hm
        · rw [l3 m hm, k2 _ (by omega)]
        · show (if _ then _ else _) = _
          rw [if_pos (by omega)]
