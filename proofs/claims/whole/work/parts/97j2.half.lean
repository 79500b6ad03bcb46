/-! what goes on, at the class alone and at the model alone -/
def qS8 (n : Nat) (D : Nat → Nat → Nat) (M : gM) : Prop :=
  M 26 3 = nI (D 0 5) ∧ M 26 5 = nI (D 0 4) ∧ M 26 6 = nI (D 0 10) ∧ (∀ p, p < n → M 27 p = nI (D 3 p) ∧ M 28 p = nI (D 4 p)) ∧ ∀ p, p < 10 → M 29 p = nI (D 5 p)
def qS9 (n : Nat) (D : Nat → Nat → Nat) (M : gM) : Prop :=
  M 96 30 = nI (D 0 5) ∧ M 96 31 = nI (D 0 4) ∧ M 96 33 = nI (D 0 10) ∧ ∀ p, p < n → M 96 p = nI (D 3 p) ∧ M 96 (10 + p) = nI (D 4 p) ∧ M 96 (20 + p) = nI (D 5 p)
theorem qS_8 {n : Nat} {D : Nat → Nat → Nat} {M : gM} (h : qSV n D M 26 0) : qS8 n D M := by
  obtain ⟨h1, h2, h3, h4, h5, h6, h7, h8, h9⟩ := h
  exact ⟨h1, h2, h3, fun p hp => ⟨(h8 p hp).1, (h8 p hp).2.1⟩, h9⟩
theorem qS_9 {n : Nat} {D : Nat → Nat → Nat} {M : gM} (h : qSV n D M 26 0) : qS9 n D M := by
  obtain ⟨h1, h2, h3, h4, h5, h6, h7, h8, h9⟩ := h
  refine ⟨h4, h5, h6, fun p hp => ?_⟩
  obtain ⟨a1, a2, a3, a4, a5⟩ := h8 p hp
  rw [Nat.zero_add] at a3 a4 a5
  exact ⟨a3, a4, a5⟩
theorem qS_V {n : Nat} {D : Nat → Nat → Nat} {M : gM} (h8 : qS8 n D M) (h9 : qS9 n D M) (h : M 96 32 = M 26 4) : qSV n D M 26 0 := by
  obtain ⟨a1, a2, a3, a4, a5⟩ := h8
  obtain ⟨b1, b2, b3, b4⟩ := h9
  refine ⟨a1, a2, a3, b1, b2, b3, h, fun p hp => ?_, a5⟩
  rw [Nat.zero_add, Nat.zero_add, Nat.zero_add]
  exact ⟨(a4 p hp).1, (a4 p hp).2, (b4 p hp).1, (b4 p hp).2.1, (b4 p hp).2.2⟩
theorem qS8_fr {n : Nat} {D : Nat → Nat → Nat} {M M' : gM} (h : qS8 n D M) (e : ∀ k j, 26 ≤ k → k ≤ 29 → M' k j = M k j) : qS8 n D M' := by
  obtain ⟨a1, a2, a3, a4, a5⟩ := h
  exact ⟨(e _ _ (by omega) (by omega)).trans a1, (e _ _ (by omega) (by omega)).trans a2, (e _ _ (by omega) (by omega)).trans a3, fun p hp => ⟨(e _ _ (by omega) (by omega)).trans (a4 p hp).1, (e _ _ (by omega) (by omega)).trans (a4 p hp).2⟩, fun p hp => (e _ _ (by omega) (by omega)).trans (a5 p hp)⟩
theorem qS9_fr {n : Nat} {D : Nat → Nat → Nat} {M M' : gM} (h : qS9 n D M) (hn : n ≤ 10) (e : ∀ j, j < 40 → M' 96 j = M 96 j) : qS9 n D M' := by
  obtain ⟨a1, a2, a3, a4⟩ := h
  exact ⟨(e _ (by omega)).trans a1, (e _ (by omega)).trans a2, (e _ (by omega)).trans a3, fun p hp => ⟨(e _ (by omega)).trans (a4 p hp).1, (e _ (by omega)).trans (a4 p hp).2.1, (e _ (by omega)).trans (a4 p hp).2.2⟩⟩
section EV
variable {D : Nat → Nat → Nat} {M : gM}
theorem e2_isFor8 (hW : qWF D) (hT : qTW D M) (hL : qLK D M) (hS : qS8 (D 0 0) D M) {i s bn : Nat} (hi : i < D 0 9) (hs : s < D 0 1) : f_X2_isFor (nI i) (nI s) (nI (andn (bsN (fhB D (D 9 s)) (D 0 0)) bn)) M = some (nI (if lfB D bn i s then 1 else 0)) := by
  have hn := hW.1.1
  have hs8 := hW.1.2.1
  have hwd := wd_le hW hi
  obtain ⟨c1, c2, c3⟩ := hW.1.2.2.2.2.1 s hs
  obtain ⟨t1, t2, t3, t4, t5, t6⟩ := hT.2.2.2.2.2.2 s hs
  have hk := qmk_lt hW hi
  have hk2 := qmk_1024 hW hi
  have e0 : f_X2_sumOf (nI i) 27 10 M = some (nI (w3 D (D 3) i)) := e2_sumOf hW hL hi (fun p hp => (hS.2.2.2.1 p hp).1)
  have ea : andn (qmk D i) (andn (bsN (fhB D (D 9 s)) (D 0 0)) bn) < 1024 := andn_1024 hk2
  unfold f_X2_isFor f_X7_hasScene lfB
  by_cases h1 : frB D bn (D 9 s) (qmk D i) (D 0 0)
  · have h1' := (free_iff (bn := bn) (h := D 9 s) hk).mpr h1
    by_cases h2 : D 10 s ≤ w3 D (D 3) i
    · by_cases h3 : w3 D (D 3) i ≤ D 11 s
      · simp (disch := omega) only [pn_lt, pn_ltM, pl_ofN, ↓pl_m1, pl_lit, fa_litL, pn_bs, ck_n, ckh_n, ck_t, ckh_t, nI_add, nI_clamp, nI_ltI, nI_leI, nI_eq, m1_eq, m1_eq2, m1_lt, m1_le, m1_lt2, m1_le2, m1_m1, nI_m1, nI_subn, gb_n, Nat.add_zero, Nat.zero_add, Nat.zero_or, Nat.or_zero, nle_f, nle_t, nlt_f, nlt_t, neq_f, neq_t, Bool.false_eq_true, eq_self, if_true, if_false, ite_true, ite_false, and_true, true_and, and_false, false_and, decide_true, decide_false, Bool.and_true, Bool.true_and, Bool.and_false, Bool.false_and, Bool.or_false, Bool.false_or, Bool.or_true, Bool.true_or, Bool.not_true, Bool.not_false, not_true_eq_false, not_false_eq_true, hT.2.1, e2_partsOf hW hL hi, nI_andn', h1', e0, t2, t3, h1]
      · simp (disch := omega) only [pn_lt, pn_ltM, pl_ofN, ↓pl_m1, pl_lit, fa_litL, pn_bs, ck_n, ckh_n, ck_t, ckh_t, nI_add, nI_clamp, nI_ltI, nI_leI, nI_eq, m1_eq, m1_eq2, m1_lt, m1_le, m1_lt2, m1_le2, m1_m1, nI_m1, nI_subn, gb_n, Nat.add_zero, Nat.zero_add, Nat.zero_or, Nat.or_zero, nle_f, nle_t, nlt_f, nlt_t, neq_f, neq_t, Bool.false_eq_true, eq_self, if_true, if_false, ite_true, ite_false, and_true, true_and, and_false, false_and, decide_true, decide_false, Bool.and_true, Bool.true_and, Bool.and_false, Bool.false_and, Bool.or_false, Bool.false_or, Bool.or_true, Bool.true_or, Bool.not_true, Bool.not_false, not_true_eq_false, not_false_eq_true, hT.2.1, e2_partsOf hW hL hi, nI_andn', h1', e0, t2, t3, h1]
    · simp (disch := omega) only [pn_lt, pn_ltM, pl_ofN, ↓pl_m1, pl_lit, fa_litL, pn_bs, ck_n, ckh_n, ck_t, ckh_t, nI_add, nI_clamp, nI_ltI, nI_leI, nI_eq, m1_eq, m1_eq2, m1_lt, m1_le, m1_lt2, m1_le2, m1_m1, nI_m1, nI_subn, gb_n, Nat.add_zero, Nat.zero_add, Nat.zero_or, Nat.or_zero, nle_f, nle_t, nlt_f, nlt_t, neq_f, neq_t, Bool.false_eq_true, eq_self, if_true, if_false, ite_true, ite_false, and_true, true_and, and_false, false_and, decide_true, decide_false, Bool.and_true, Bool.true_and, Bool.and_false, Bool.false_and, Bool.or_false, Bool.false_or, Bool.or_true, Bool.true_or, Bool.not_true, Bool.not_false, not_true_eq_false, not_false_eq_true, hT.2.1, e2_partsOf hW hL hi, nI_andn', h1', e0, t2, t3, h1]
  · have h1' := mt (free_iff (bn := bn) (h := D 9 s) hk).mp h1
    simp (disch := omega) only [pn_lt, pn_ltM, pl_ofN, ↓pl_m1, pl_lit, fa_litL, pn_bs, ck_n, ckh_n, ck_t, ckh_t, nI_add, nI_clamp, nI_ltI, nI_leI, nI_eq, m1_eq, m1_eq2, m1_lt, m1_le, m1_lt2, m1_le2, m1_m1, nI_m1, nI_subn, gb_n, Nat.add_zero, Nat.zero_add, Nat.zero_or, Nat.or_zero, nle_f, nle_t, nlt_f, nlt_t, neq_f, neq_t, Bool.false_eq_true, eq_self, if_true, if_false, ite_true, ite_false, and_true, true_and, and_false, false_and, decide_true, decide_false, Bool.and_true, Bool.true_and, Bool.and_false, Bool.false_and, Bool.or_false, Bool.false_or, Bool.or_true, Bool.true_or, Bool.not_true, Bool.not_false, not_true_eq_false, not_false_eq_true, hT.2.1, e2_partsOf hW hL hi, nI_andn', h1', h1]
theorem e9_isFor9 {F i s bn : Nat} (hF : 4000 ≤ F) (hW : qWF D) (hT : qTW D M) (hS : qS9 (D 0 0) D M) (hb : M 95 22 = nI bn) (hbn : bn < 1024) (hi : i < D 0 9) (hs : s < D 0 1) : f_X9_isFor F (nI 0) (nI (qmk D i)) (nI s) M = some (nI (if lfB D bn i s then 1 else 0)) := by
  have hn := hW.1.1
  have hs8 := hW.1.2.1
  have hwd := wd_le hW hi
  obtain ⟨c1, c2, c3⟩ := hW.1.2.2.2.2.1 s hs
  obtain ⟨t1, t2, t3, t4, t5, t6⟩ := hT.2.2.2.2.2.2 s hs
  have hk2 := qmk_1024 hW hi
  have e0 : f_X9_sumOf F (nI 0) (nI (qmk D i)) M = some (nI (sS (D 3) (qmk D i) (D 0 0))) := e9_sumOf hF hW hT hk2 (by omega) (fun p hp => by rw [Nat.zero_add]; exact (hS.2.2.2 p hp).1)
  rw [sS_qmk hW hi] at e0
  have e1 := e9_isFree (h := D 9 s) hF hW hT hk2 c1 hb hbn
  unfold f_X9_isFor lfB
  by_cases h1 : frB D bn (D 9 s) (qmk D i) (D 0 0)
  · by_cases h2 : D 10 s ≤ w3 D (D 3) i
    · by_cases h3 : w3 D (D 3) i ≤ D 11 s
      · simp (disch := omega) only [pn_lt, pn_ltM, pl_ofN, ↓pl_m1, pl_lit, fa_litL, pn_bs, ck_n, ckh_n, ck_t, ckh_t, nI_add, nI_clamp, nI_ltI, nI_leI, nI_eq, m1_eq, m1_eq2, m1_lt, m1_le, m1_lt2, m1_le2, m1_m1, nI_m1, nI_subn, gb_n, Nat.add_zero, Nat.zero_add, Nat.zero_or, Nat.or_zero, nle_f, nle_t, nlt_f, nlt_t, neq_f, neq_t, Bool.false_eq_true, eq_self, if_true, if_false, ite_true, ite_false, and_true, true_and, and_false, false_and, decide_true, decide_false, Bool.and_true, Bool.true_and, Bool.and_false, Bool.false_and, Bool.or_false, Bool.false_or, Bool.or_true, Bool.true_or, Bool.not_true, Bool.not_false, not_true_eq_false, not_false_eq_true, t4, t5, t6, e1, e0, h1, e9_in]
      · simp (disch := omega) only [pn_lt, pn_ltM, pl_ofN, ↓pl_m1, pl_lit, fa_litL, pn_bs, ck_n, ckh_n, ck_t, ckh_t, nI_add, nI_clamp, nI_ltI, nI_leI, nI_eq, m1_eq, m1_eq2, m1_lt, m1_le, m1_lt2, m1_le2, m1_m1, nI_m1, nI_subn, gb_n, Nat.add_zero, Nat.zero_add, Nat.zero_or, Nat.or_zero, nle_f, nle_t, nlt_f, nlt_t, neq_f, neq_t, Bool.false_eq_true, eq_self, if_true, if_false, ite_true, ite_false, and_true, true_and, and_false, false_and, decide_true, decide_false, Bool.and_true, Bool.true_and, Bool.and_false, Bool.false_and, Bool.or_false, Bool.false_or, Bool.or_true, Bool.true_or, Bool.not_true, Bool.not_false, not_true_eq_false, not_false_eq_true, t4, t5, t6, e1, e0, h1, e9_in]
    · simp (disch := omega) only [pn_lt, pn_ltM, pl_ofN, ↓pl_m1, pl_lit, fa_litL, pn_bs, ck_n, ckh_n, ck_t, ckh_t, nI_add, nI_clamp, nI_ltI, nI_leI, nI_eq, m1_eq, m1_eq2, m1_lt, m1_le, m1_lt2, m1_le2, m1_m1, nI_m1, nI_subn, gb_n, Nat.add_zero, Nat.zero_add, Nat.zero_or, Nat.or_zero, nle_f, nle_t, nlt_f, nlt_t, neq_f, neq_t, Bool.false_eq_true, eq_self, if_true, if_false, ite_true, ite_false, and_true, true_and, and_false, false_and, decide_true, decide_false, Bool.and_true, Bool.true_and, Bool.and_false, Bool.false_and, Bool.or_false, Bool.false_or, Bool.or_true, Bool.true_or, Bool.not_true, Bool.not_false, not_true_eq_false, not_false_eq_true, t4, t5, t6, e1, e0, h1, e9_in]
  · simp (disch := omega) only [pn_lt, pn_ltM, pl_ofN, ↓pl_m1, pl_lit, fa_litL, pn_bs, ck_n, ckh_n, ck_t, ckh_t, nI_add, nI_clamp, nI_ltI, nI_leI, nI_eq, m1_eq, m1_eq2, m1_lt, m1_le, m1_lt2, m1_le2, m1_m1, nI_m1, nI_subn, gb_n, Nat.add_zero, Nat.zero_add, Nat.zero_or, Nat.or_zero, nle_f, nle_t, nlt_f, nlt_t, neq_f, neq_t, Bool.false_eq_true, eq_self, if_true, if_false, ite_true, ite_false, and_true, true_and, and_false, false_and, decide_true, decide_false, Bool.and_true, Bool.true_and, Bool.and_false, Bool.false_and, Bool.or_false, Bool.false_or, Bool.or_true, Bool.true_or, Bool.not_true, Bool.not_false, not_true_eq_false, not_false_eq_true, t4, t5, t6, e1, h1, e9_in]
end EV
