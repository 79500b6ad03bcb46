/-! the simple calls -/
def eqR (o8 o9 : Option Int32) : Prop := ∃ r, o8 = some r ∧ o9 = some r
def eqW (o8 : Option (Int32 × gM)) (o9 : gM → Option (Int32 × gM)) : Prop := ∃ r M1 M2, o8 = some (r, M1) ∧ o9 M1 = some (r, M2) ∧ qR M2
def dset (D : Nat → Nat → Nat) (c i v : Nat) : Nat → Nat → Nat := fun c' i' => if c' = c ∧ i' = i then v else D c' i'
theorem dset_v (D : Nat → Nat → Nat) (c i v c' i' : Nat) : dset D c i v c' i' = if c' = c ∧ i' = i then v else D c' i' := rfl
theorem e9_in (a b c : Int32) (M : gM) : f_X9_in a.toInt64 b.toInt64 c.toInt64 M = some (nI (if b ≤ a ∧ a ≤ c then 1 else 0)) := by
  unfold f_X9_in
  have e1 : (lg_cmp a.toInt64 b.toInt64 < 0) ↔ a < b := by rw [lg_cmp_lt, fa_wide_lt]
  have e2 : (0 < lg_cmp a.toInt64 c.toInt64) ↔ c < a := by rw [lg_cmp_gt, fa_wide_lt]
  by_cases h1 : a < b
  · rw [if_pos (e1.mpr h1), if_neg (fun q => (fa_of_lt h1).2.1 q.1)]; rfl
  · rw [if_neg (fun q => h1 (e1.mp q))]
    by_cases h2 : c < a
    · rw [if_pos (e2.mpr h2), if_neg (fun q => (fa_of_lt h2).2.1 q.2)]; rfl
    · rw [if_neg (fun q => h2 (e2.mp q)), if_pos ⟨fa_of_nlt h1, fa_of_nlt h2⟩]; rfl
theorem lN_wide {n : Nat} (h : n < 2 ^ 31) : (nI n).toInt64 = lN n := nI_l h
theorem e9_inL {b c : Nat} (hb : b < 2 ^ 31) (hc : c < 2 ^ 31) (a : Int32) (M : gM) : f_X9_in a.toInt64 (lN b) (lN c) M = some (nI (if nI b ≤ a ∧ a ≤ nI c then 1 else 0)) := by
  rw [← nI_l hb, ← nI_l hc]
  exact e9_in a _ _ M
theorem rg_le (a : Int32) (n : Nat) (hn : n < 2 ^ 31 - 1) : (a < nI 0) ∨ (nI n < a) ∨ ∃ j, j ≤ n ∧ a = nI j := by
  rcases pk_ix a (n := n + 1) (by omega) with h | h | ⟨j, h, e⟩
  · exact .inl h
  · refine .inr (.inl ?_)
    rw [fa_le, nI_toInt (by omega)] at h
    rw [fa_lt, nI_toInt (by omega)]
    omega
  · exact .inr (.inr ⟨j, by omega, e⟩)
theorem i_lt {a b : Int32} (h : a < b) : (a < b) = True := eq_true h
theorem i_nle {a b : Int32} (h : a < b) : (b ≤ a) = False := eq_false (fa_of_lt h).2.1
theorem i_nlt {a b : Int32} (h : a < b) : (b < a) = False := eq_false (fa_of_lt h).2.2.1
theorem i_ne {a b : Int32} (h : a < b) : (a = b) = False := eq_false (fa_of_lt h).2.2.2.1
theorem i_ne' {a b : Int32} (h : a < b) : (b = a) = False := eq_false (fa_of_lt h).2.2.2.2
/-- the calls ask alike: is it a part, a scene -/
theorem e_part {D : Nat → Nat → Nat} {M : gM} (hT : qTW D M) (hn : D 0 0 ≤ 10) (a : Int32) : (∃ j, j < D 0 0 ∧ a = nI j ∧ f_X7_hasPart 3 a M = some (nI 1) ∧ f_X9_isPart a M = some (nI 1)) ∨ f_X7_hasPart 3 a M = some (nI 0) ∧ f_X9_isPart a M = some (nI 0) := by
  obtain ⟨h1, -, -, h2, -⟩ := hT
  unfold f_X7_hasPart f_X9_isPart
  have e0 : (0 : Int64) = (nI 0).toInt64 := by decide +kernel
  rw [show (0 : Int32).toNatClampNeg = 0 from rfl, h1, h2, e0, e9_in]
  have e1 : (1 : Int32) = nI 1 := rfl
  rcases rg_le a 10 (by omega) with h | h | ⟨j, hj, rfl⟩
  · refine .inr ⟨?_, ?_⟩
    · simp (disch := omega) only [pn_lt, pn_ltM, pl_ofN, ↓pl_m1, pl_lit, fa_litL, pn_bs, ck_n, ckh_n, ck_t, ckh_t, nI_add, nI_clamp, nI_ltI, nI_leI, nI_eq, m1_eq, m1_eq2, m1_lt, m1_le, m1_lt2, m1_le2, m1_m1, nI_m1, nI_subn, gb_n, Nat.add_zero, Nat.zero_add, Nat.zero_or, Nat.or_zero, nle_f, nle_t, nlt_f, nlt_t, neq_f, neq_t, Bool.false_eq_true, eq_self, if_true, if_false, ite_true, ite_false, and_true, true_and, and_false, false_and, decide_true, decide_false, Bool.and_true, Bool.true_and, Bool.and_false, Bool.false_and, Bool.or_false, Bool.false_or, Bool.or_true, Bool.true_or, Bool.not_true, Bool.not_false, not_true_eq_false, not_false_eq_true, i_lt h]
    · rw [if_neg (fun q => (fa_of_lt h).2.1 q.1)]
      rfl
  · refine .inr ⟨?_, ?_⟩
    · rw [if_neg, if_pos]
      · rfl
      · rw [fa_le]
        rw [fa_lt, nI_toInt (by omega)] at h
        rw [nI_toInt (by omega)]
        omega
      · intro q
        rw [fa_lt] at h
        have q2 : a.toInt < (0 : Int32).toInt := (fa_lt _ _).mp q
        rw [nI_toInt (by omega)] at h
        have : (0 : Int32).toInt = 0 := rfl
        omega
    · rw [if_neg]
      · rfl
      · intro q
        have q2 := (fa_le _ _).mp q.2
        rw [fa_lt, nI_toInt (by omega)] at h
        by_cases z : D 0 0 = 0
        · rw [z] at q2
          have : (nI 0 - 1).toInt = -1 := by decide +kernel
          omega
        · obtain ⟨m, e⟩ : ∃ m, D 0 0 = m + 1 := ⟨D 0 0 - 1, by omega⟩
          rw [e, nI_pred, nI_toInt (by omega)] at q2
          omega
  · by_cases hjn : j < D 0 0
    · refine .inl ⟨j, hjn, rfl, ?_, ?_⟩
      · simp (disch := omega) only [pn_lt, pn_ltM, pl_ofN, ↓pl_m1, pl_lit, fa_litL, pn_bs, ck_n, ckh_n, ck_t, ckh_t, nI_add, nI_clamp, nI_ltI, nI_leI, nI_eq, m1_eq, m1_eq2, m1_lt, m1_le, m1_lt2, m1_le2, m1_m1, nI_m1, nI_subn, gb_n, Nat.add_zero, Nat.zero_add, Nat.zero_or, Nat.or_zero, nle_f, nle_t, nlt_f, nlt_t, neq_f, neq_t, Bool.false_eq_true, eq_self, if_true, if_false, ite_true, ite_false, and_true, true_and, and_false, false_and, decide_true, decide_false, Bool.and_true, Bool.true_and, Bool.and_false, Bool.false_and, Bool.or_false, Bool.false_or, Bool.or_true, Bool.true_or, Bool.not_true, Bool.not_false, not_true_eq_false, not_false_eq_true]
      · obtain ⟨m, e⟩ : ∃ m, D 0 0 = m + 1 := ⟨D 0 0 - 1, by omega⟩
        rw [e, nI_pred]
        simp (disch := omega) only [pn_lt, pn_ltM, pl_ofN, ↓pl_m1, pl_lit, fa_litL, pn_bs, ck_n, ckh_n, ck_t, ckh_t, nI_add, nI_clamp, nI_ltI, nI_leI, nI_eq, m1_eq, m1_eq2, m1_lt, m1_le, m1_lt2, m1_le2, m1_m1, nI_m1, nI_subn, gb_n, Nat.add_zero, Nat.zero_add, Nat.zero_or, Nat.or_zero, nle_f, nle_t, nlt_f, nlt_t, neq_f, neq_t, Bool.false_eq_true, eq_self, if_true, if_false, ite_true, ite_false, and_true, true_and, and_false, false_and, decide_true, decide_false, Bool.and_true, Bool.true_and, Bool.and_false, Bool.false_and, Bool.or_false, Bool.false_or, Bool.or_true, Bool.true_or, Bool.not_true, Bool.not_false, not_true_eq_false, not_false_eq_true]
    · refine .inr ⟨?_, ?_⟩
      · simp (disch := omega) only [pn_lt, pn_ltM, pl_ofN, ↓pl_m1, pl_lit, fa_litL, pn_bs, ck_n, ckh_n, ck_t, ckh_t, nI_add, nI_clamp, nI_ltI, nI_leI, nI_eq, m1_eq, m1_eq2, m1_lt, m1_le, m1_lt2, m1_le2, m1_m1, nI_m1, nI_subn, gb_n, Nat.add_zero, Nat.zero_add, Nat.zero_or, Nat.or_zero, nle_f, nle_t, nlt_f, nlt_t, neq_f, neq_t, Bool.false_eq_true, eq_self, if_true, if_false, ite_true, ite_false, and_true, true_and, and_false, false_and, decide_true, decide_false, Bool.and_true, Bool.true_and, Bool.and_false, Bool.false_and, Bool.or_false, Bool.false_or, Bool.or_true, Bool.true_or, Bool.not_true, Bool.not_false, not_true_eq_false, not_false_eq_true]
      · by_cases z : D 0 0 = 0
        · rw [z]
          have e9 : nI 0 - 1 = m1 := by decide +kernel
          rw [e9]
          simp (disch := omega) only [pn_lt, pn_ltM, pl_ofN, ↓pl_m1, pl_lit, fa_litL, pn_bs, ck_n, ckh_n, ck_t, ckh_t, nI_add, nI_clamp, nI_ltI, nI_leI, nI_eq, m1_eq, m1_eq2, m1_lt, m1_le, m1_lt2, m1_le2, m1_m1, nI_m1, nI_subn, gb_n, Nat.add_zero, Nat.zero_add, Nat.zero_or, Nat.or_zero, nle_f, nle_t, nlt_f, nlt_t, neq_f, neq_t, Bool.false_eq_true, eq_self, if_true, if_false, ite_true, ite_false, and_true, true_and, and_false, false_and, decide_true, decide_false, Bool.and_true, Bool.true_and, Bool.and_false, Bool.false_and, Bool.or_false, Bool.false_or, Bool.or_true, Bool.true_or, Bool.not_true, Bool.not_false, not_true_eq_false, not_false_eq_true]
        · obtain ⟨m, e⟩ : ∃ m, D 0 0 = m + 1 := ⟨D 0 0 - 1, by omega⟩
          rw [e, nI_pred]
          simp (disch := omega) only [pn_lt, pn_ltM, pl_ofN, ↓pl_m1, pl_lit, fa_litL, pn_bs, ck_n, ckh_n, ck_t, ckh_t, nI_add, nI_clamp, nI_ltI, nI_leI, nI_eq, m1_eq, m1_eq2, m1_lt, m1_le, m1_lt2, m1_le2, m1_m1, nI_m1, nI_subn, gb_n, Nat.add_zero, Nat.zero_add, Nat.zero_or, Nat.or_zero, nle_f, nle_t, nlt_f, nlt_t, neq_f, neq_t, Bool.false_eq_true, eq_self, if_true, if_false, ite_true, ite_false, and_true, true_and, and_false, false_and, decide_true, decide_false, Bool.and_true, Bool.true_and, Bool.and_false, Bool.false_and, Bool.or_false, Bool.false_or, Bool.or_true, Bool.true_or, Bool.not_true, Bool.not_false, not_true_eq_false, not_false_eq_true]
