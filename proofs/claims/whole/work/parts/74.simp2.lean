/-! the simple calls, 2 -/
theorem e9_idx {k : Nat} (hk : k ≤ 1000) (a : Int32) (M : gM) : (∃ j, j < k ∧ a = nI j ∧ f_X9_in a.toInt64 (0 : Int64) ((nI k - (1 : Int32)).toInt64) M = some (nI 1)) ∨ ((a < nI 0 ∨ nI k ≤ a) ∧ f_X9_in a.toInt64 (0 : Int64) ((nI k - (1 : Int32)).toInt64) M = some (nI 0)) := by
  have e0 : (0 : Int64) = (nI 0).toInt64 := by decide +kernel
  rw [e0, e9_in]
  rcases pk_ix a (n := k) (by omega) with h | h | ⟨j, hj, rfl⟩
  · refine .inr ⟨.inl h, ?_⟩
    rw [if_neg (fun q => (fa_of_lt h).2.1 q.1)]
  · refine .inr ⟨.inr h, ?_⟩
    rw [if_neg]
    intro q
    have q2 := (fa_le _ _).mp q.2
    rw [fa_le, nI_toInt (by omega)] at h
    by_cases z : k = 0
    · rw [z] at q2
      have : (nI 0 - 1).toInt = -1 := by decide +kernel
      omega
    · obtain ⟨m, e⟩ : ∃ m, k = m + 1 := ⟨k - 1, by omega⟩
      rw [e, nI_pred, nI_toInt (by omega)] at q2
      omega
  · refine .inl ⟨j, hj, rfl, ?_⟩
    obtain ⟨m, e⟩ : ∃ m, k = m + 1 := ⟨k - 1, by omega⟩
    rw [e, nI_pred]
    simp (disch := omega) only [pn_lt, pn_ltM, pl_ofN, ↓pl_m1, pl_lit, fa_litL, pn_bs, ck_n, ckh_n, ck_t, ckh_t, nI_add, nI_clamp, nI_ltI, nI_leI, nI_eq, m1_eq, m1_eq2, m1_lt, m1_le, m1_lt2, m1_le2, m1_m1, nI_m1, nI_subn, gb_n, Nat.add_zero, Nat.zero_add, Nat.zero_or, Nat.or_zero, nle_f, nle_t, nlt_f, nlt_t, neq_f, neq_t, Bool.false_eq_true, eq_self, if_true, if_false, ite_true, ite_false, and_true, true_and, and_false, false_and, decide_true, decide_false, Bool.and_true, Bool.true_and, Bool.and_false, Bool.false_and, Bool.or_false, Bool.false_or, Bool.or_true, Bool.true_or, Bool.not_true, Bool.not_false, not_true_eq_false, not_false_eq_true]
theorem e_scene {D : Nat → Nat → Nat} {M : gM} (hT : qTW D M) (hn : D 0 1 ≤ 8) (a : Int32) : (∃ j, j < D 0 1 ∧ a = nI j ∧ f_X7_hasScene 3 a M = some (nI 1) ∧ f_X9_isScene a M = some (nI 1)) ∨ f_X7_hasScene 3 a M = some (nI 0) ∧ f_X9_isScene a M = some (nI 0) := by
  obtain ⟨-, h1, -, -, h2, -⟩ := hT
  unfold f_X7_hasScene f_X9_isScene
  rw [show (1 : Int32).toNatClampNeg = 1 from rfl, h1, h2]
  rcases e9_idx (k := D 0 1) (by omega) a M with ⟨j, hj, rfl, h⟩ | ⟨h, h3⟩
  · refine .inl ⟨j, hj, rfl, ?_, ?_⟩
    · simp (disch := omega) only [pn_lt, pn_ltM, pl_ofN, ↓pl_m1, pl_lit, fa_litL, pn_bs, ck_n, ckh_n, ck_t, ckh_t, nI_add, nI_clamp, nI_ltI, nI_leI, nI_eq, m1_eq, m1_eq2, m1_lt, m1_le, m1_lt2, m1_le2, m1_m1, nI_m1, nI_subn, gb_n, Nat.add_zero, Nat.zero_add, Nat.zero_or, Nat.or_zero, nle_f, nle_t, nlt_f, nlt_t, neq_f, neq_t, Bool.false_eq_true, eq_self, if_true, if_false, ite_true, ite_false, and_true, true_and, and_false, false_and, decide_true, decide_false, Bool.and_true, Bool.true_and, Bool.and_false, Bool.false_and, Bool.or_false, Bool.false_or, Bool.or_true, Bool.true_or, Bool.not_true, Bool.not_false, not_true_eq_false, not_false_eq_true]
    · rw [h]
      simp (disch := omega) only [pn_lt, pn_ltM, pl_ofN, ↓pl_m1, pl_lit, fa_litL, pn_bs, ck_n, ckh_n, ck_t, ckh_t, nI_add, nI_clamp, nI_ltI, nI_leI, nI_eq, m1_eq, m1_eq2, m1_lt, m1_le, m1_lt2, m1_le2, m1_m1, nI_m1, nI_subn, gb_n, Nat.add_zero, Nat.zero_add, Nat.zero_or, Nat.or_zero, nle_f, nle_t, nlt_f, nlt_t, neq_f, neq_t, Bool.false_eq_true, eq_self, if_true, if_false, ite_true, ite_false, and_true, true_and, and_false, false_and, decide_true, decide_false, Bool.and_true, Bool.true_and, Bool.and_false, Bool.false_and, Bool.or_false, Bool.false_or, Bool.or_true, Bool.true_or, Bool.not_true, Bool.not_false, not_true_eq_false, not_false_eq_true]
  · refine .inr ⟨?_, ?_⟩
    · rcases h with h | h
      · simp (disch := omega) only [pn_lt, pn_ltM, pl_ofN, ↓pl_m1, pl_lit, fa_litL, pn_bs, ck_n, ckh_n, ck_t, ckh_t, nI_add, nI_clamp, nI_ltI, nI_leI, nI_eq, m1_eq, m1_eq2, m1_lt, m1_le, m1_lt2, m1_le2, m1_m1, nI_m1, nI_subn, gb_n, Nat.add_zero, Nat.zero_add, Nat.zero_or, Nat.or_zero, nle_f, nle_t, nlt_f, nlt_t, neq_f, neq_t, Bool.false_eq_true, eq_self, if_true, if_false, ite_true, ite_false, and_true, true_and, and_false, false_and, decide_true, decide_false, Bool.and_true, Bool.true_and, Bool.and_false, Bool.false_and, Bool.or_false, Bool.false_or, Bool.or_true, Bool.true_or, Bool.not_true, Bool.not_false, not_true_eq_false, not_false_eq_true, i_lt h]
      · by_cases h4 : a < nI 0
        · simp (disch := omega) only [pn_lt, pn_ltM, pl_ofN, ↓pl_m1, pl_lit, fa_litL, pn_bs, ck_n, ckh_n, ck_t, ckh_t, nI_add, nI_clamp, nI_ltI, nI_leI, nI_eq, m1_eq, m1_eq2, m1_lt, m1_le, m1_lt2, m1_le2, m1_m1, nI_m1, nI_subn, gb_n, Nat.add_zero, Nat.zero_add, Nat.zero_or, Nat.or_zero, nle_f, nle_t, nlt_f, nlt_t, neq_f, neq_t, Bool.false_eq_true, eq_self, if_true, if_false, ite_true, ite_false, and_true, true_and, and_false, false_and, decide_true, decide_false, Bool.and_true, Bool.true_and, Bool.and_false, Bool.false_and, Bool.or_false, Bool.false_or, Bool.or_true, Bool.true_or, Bool.not_true, Bool.not_false, not_true_eq_false, not_false_eq_true, i_lt h4]
        · simp (disch := omega) only [pn_lt, pn_ltM, pl_ofN, ↓pl_m1, pl_lit, fa_litL, pn_bs, ck_n, ckh_n, ck_t, ckh_t, nI_add, nI_clamp, nI_ltI, nI_leI, nI_eq, m1_eq, m1_eq2, m1_lt, m1_le, m1_lt2, m1_le2, m1_m1, nI_m1, nI_subn, gb_n, Nat.add_zero, Nat.zero_add, Nat.zero_or, Nat.or_zero, nle_f, nle_t, nlt_f, nlt_t, neq_f, neq_t, Bool.false_eq_true, eq_self, if_true, if_false, ite_true, ite_false, and_true, true_and, and_false, false_and, decide_true, decide_false, Bool.and_true, Bool.true_and, Bool.and_false, Bool.false_and, Bool.or_false, Bool.false_or, Bool.or_true, Bool.true_or, Bool.not_true, Bool.not_false, not_true_eq_false, not_false_eq_true, eq_false h4, eq_true h]
    · rw [h3]
      simp (disch := omega) only [pn_lt, pn_ltM, pl_ofN, ↓pl_m1, pl_lit, fa_litL, pn_bs, ck_n, ckh_n, ck_t, ckh_t, nI_add, nI_clamp, nI_ltI, nI_leI, nI_eq, m1_eq, m1_eq2, m1_lt, m1_le, m1_lt2, m1_le2, m1_m1, nI_m1, nI_subn, gb_n, Nat.add_zero, Nat.zero_add, Nat.zero_or, Nat.or_zero, nle_f, nle_t, nlt_f, nlt_t, neq_f, neq_t, Bool.false_eq_true, eq_self, if_true, if_false, ite_true, ite_false, and_true, true_and, and_false, false_and, decide_true, decide_false, Bool.and_true, Bool.true_and, Bool.and_false, Bool.false_and, Bool.or_false, Bool.false_or, Bool.or_true, Bool.true_or, Bool.not_true, Bool.not_false, not_true_eq_false, not_false_eq_true]
theorem i_lelt {a b c : Int32} (h : a < b) (k : b < c) : (c ≤ a) = False := eq_false (fun q => by
  rw [fa_lt] at h k
  rw [fa_le] at q
  omega)
theorem i_lt0 {a : Int32} {n : Nat} (h : nI n < a) (hn : n < 2 ^ 31) : (a < nI 0) = False := eq_false (fun q => by
  rw [fa_lt, nI_toInt (by omega)] at h
  rw [fa_lt, nI_toInt (by omega)] at q
  omega)
theorem i_le0 {a : Int32} {n : Nat} (h : nI n < a) (hn : n < 2 ^ 31) : (nI 0 ≤ a) = True := eq_true (by
  rw [fa_lt, nI_toInt (by omega)] at h
  rw [fa_le, nI_toInt (by omega)]
  omega)
/-! frames of the relation -/
theorem qTW_fr {D : Nat → Nat → Nat} {M M' : gM} (h : qTW D M) (hn : D 0 0 ≤ 10) (hs : D 0 1 ≤ 8) (e : ∀ k i, (3 ≤ k ∧ k ≤ 13 ∨ 98 ≤ k ∧ k ≤ 104 ∧ i < 10 ∨ 105 ≤ k ∧ k ≤ 107 ∧ i < 8 ∨ k = 108 ∧ i < 2) → M' k i = M k i) : qTW D M' := by
  obtain ⟨h1, h2, h3, h4, h5, h6, h7⟩ := h
  refine ⟨(e _ _ (by omega)).trans h1, (e _ _ (by omega)).trans h2, (e _ _ (by omega)).trans h3, (e _ _ (by omega)).trans h4, (e _ _ (by omega)).trans h5, fun p hp => ?_, fun s hs => ?_⟩
  · obtain ⟨a1, a2, a3, a4, a5, a6, a7, a8, a9, a10⟩ := h6 p hp
    exact ⟨(e _ _ (by omega)).trans a1, (e _ _ (by omega)).trans a2, (e _ _ (by omega)).trans a3, (e _ _ (by omega)).trans a4, (e _ _ (by omega)).trans a5, (e _ _ (by omega)).trans a6, (e _ _ (by omega)).trans a7, (e _ _ (by omega)).trans a8, (e _ _ (by omega)).trans a9, (e _ _ (by omega)).trans a10⟩
  · obtain ⟨a1, a2, a3, a4, a5, a6⟩ := h7 s hs
    exact ⟨(e _ _ (by omega)).trans a1, (e _ _ (by omega)).trans a2, (e _ _ (by omega)).trans a3, (e _ _ (by omega)).trans a4, (e _ _ (by omega)).trans a5, (e _ _ (by omega)).trans a6⟩
theorem qSV_fr {n : Nat} {D : Nat → Nat → Nat} {M M' : gM} {t w : Nat} (h : qSV n D M t w) (hn : n ≤ 10) (e : ∀ k i, (t ≤ k ∧ k ≤ t + 3 ∨ k = 96 ∧ w ≤ i ∧ i < w + 40) → M' k i = M k i) : qSV n D M' t w := by
  obtain ⟨h1, h2, h3, h4, h5, h6, h7, h8, h9⟩ := h
  refine ⟨(e _ _ (by omega)).trans h1, (e _ _ (by omega)).trans h2, (e _ _ (by omega)).trans h3, (e _ _ (by omega)).trans h4, (e _ _ (by omega)).trans h5, (e _ _ (by omega)).trans h6, ((e _ _ (by omega)).trans h7).trans (e _ _ (by omega)).symm, fun p hp => ?_, fun p hp => (e _ _ (by omega)).trans (h9 p hp)⟩
  obtain ⟨a1, a2, a3, a4, a5⟩ := h8 p hp
  exact ⟨(e _ _ (by omega)).trans a1, (e _ _ (by omega)).trans a2, (e _ _ (by omega)).trans a3, (e _ _ (by omega)).trans a4, (e _ _ (by omega)).trans a5⟩
theorem qTX_fr {D : Nat → Nat → Nat} {M M' : gM} (h : qTX D M) (e : ∀ k i, (1 ≤ k ∧ k ≤ 2 ∨ k = 95 ∧ i = 14 ∨ k = 109) → M' k i = M k i) : qTX D M' := by
  obtain ⟨h1, h2, h3⟩ := h
  exact ⟨(e _ _ (by omega)).trans h1, (e _ _ (by omega)).trans h2, fun p hp => ⟨(e _ _ (by omega)).trans (h3 p hp).1, (e _ _ (by omega)).trans (h3 p hp).2⟩⟩
theorem qLK_fr {D : Nat → Nat → Nat} {M M' : gM} (h : qLK D M) (e : ∀ k i, (39 ≤ k ∧ k ≤ 42 ∨ k = 95 ∧ i = 21 ∨ k = 110) → M' k i = M k i) : qLK D M' := by
  obtain ⟨h1, h2, h3⟩ := h
  refine ⟨(e _ _ (by omega)).trans h1, (e _ _ (by omega)).trans h2, fun p hp => ?_⟩
  obtain ⟨a1, a2, a3, a4⟩ := h3 p hp
  exact ⟨(e _ _ (by omega)).trans a1, (e _ _ (by omega)).trans a2, (e _ _ (by omega)).trans a3, (e _ _ (by omega)).trans a4⟩
theorem qSG_fr {D : Nat → Nat → Nat} {M M' : gM} (h : qSG D M) (e : ∀ k i, (88 ≤ k ∧ k ≤ 90 ∨ k = 95 ∧ i = 30 ∨ k = 116 ∨ k = 117) → M' k i = M k i) : qSG D M' := by
  obtain ⟨h1, h2, h3⟩ := h
  refine ⟨(e _ _ (by omega)).trans h1, (e _ _ (by omega)).trans h2, fun p hp => ?_⟩
  obtain ⟨a1, a2, a3, a4⟩ := h3 p hp
  exact ⟨(e _ _ (by omega)).trans a1, (e _ _ (by omega)).trans a2, (e _ _ (by omega)).trans a3, (e _ _ (by omega)).trans a4⟩
theorem qBK_fr {D : Nat → Nat → Nat} {M M' : gM} (h : qBK D M) (e : ∀ k i, (91 ≤ k ∧ k ≤ 93 ∨ k = 95 ∧ i = 33 ∨ k = 118 ∨ k = 119) → M' k i = M k i) : qBK D M' := by
  obtain ⟨h1, h2, h3⟩ := h
  refine ⟨(e _ _ (by omega)).trans h1, (e _ _ (by omega)).trans h2, fun p hp => ?_⟩
  obtain ⟨a1, a2, a3, a4⟩ := h3 p hp
  exact ⟨(e _ _ (by omega)).trans a1, (e _ _ (by omega)).trans a2, (e _ _ (by omega)).trans a3, (e _ _ (by omega)).trans a4⟩
theorem qFI_fr {n : Nat} {M M' : gM} (h : qFI n M) (hn : n ≤ 10) (e : ∀ k i, (k = 0 ∧ i = 13 ∨ k = 95 ∧ i = 19 ∨ k = 38 ∨ k = 97 ∨ 30 ≤ k ∧ k ≤ 37 ∨ k = 96 ∧ 80 ≤ i) → M' k i = M k i) : qFI n M' := by
  obtain ⟨h1, h2⟩ := h
  refine ⟨((e _ _ (by omega)).trans h1).trans (e _ _ (by omega)).symm, fun i hi => ?_⟩
  obtain ⟨a1, a2, a3⟩ := h2 i hi
  have e2 : M' 38 i = M 38 i := e _ _ (by omega)
  refine ⟨((e _ _ (by omega)).trans a1).trans e2.symm, by rw [e2]; exact a2, fun q => ?_⟩
  rw [e2] at q
  obtain ⟨E, b1, b2⟩ := a3 q
  exact ⟨E, b1, qSV_fr b2 hn (fun k j hk => e k j (by omega))⟩
/-- the slots of which the relation speaks -/
def qrel (k i : Nat) : Prop := (k = 0 → i = 13) ∧ (k < 14 ∨ 25 < k) ∧ (k < 43 ∨ 87 < k) ∧ k ≠ 94 ∧ (k = 95 → i = 14 ∨ i = 19 ∨ i = 21 ∨ i = 22 ∨ i = 30 ∨ i = 33) ∧ (k = 96 → i < 40 ∨ 80 ≤ i) ∧ (98 ≤ k → k ≤ 104 → i < 10) ∧ (105 ≤ k → k ≤ 107 → i < 8) ∧ (k = 108 → i < 2) ∧ (k < 111 ∨ 115 < k) ∧ k < 120
theorem qRC_fr {D : Nat → Nat → Nat} {M M' : gM} (h : qRC D M) (hn : D 0 0 ≤ 10) (hs : D 0 1 ≤ 8) (e : ∀ k i, qrel k i → M' k i = M k i) : qRC D M' := by
  obtain ⟨hT, hS, hX, hL, hG, hB, hF, hb⟩ := h
  exact ⟨qTW_fr hT hn hs (fun k i q => e k i ⟨by omega, by omega, by omega, by omega, by omega, by omega, by omega, by omega, by omega, by omega, by omega⟩), qSV_fr hS hn (fun k i q => e k i ⟨by omega, by omega, by omega, by omega, by omega, by omega, by omega, by omega, by omega, by omega, by omega⟩), qTX_fr hX (fun k i q => e k i ⟨by omega, by omega, by omega, by omega, by omega, by omega, by omega, by omega, by omega, by omega, by omega⟩), qLK_fr hL (fun k i q => e k i ⟨by omega, by omega, by omega, by omega, by omega, by omega, by omega, by omega, by omega, by omega, by omega⟩), qSG_fr hG (fun k i q => e k i ⟨by omega, by omega, by omega, by omega, by omega, by omega, by omega, by omega, by omega, by omega, by omega⟩), qBK_fr hB (fun k i q => e k i ⟨by omega, by omega, by omega, by omega, by omega, by omega, by omega, by omega, by omega, by omega, by omega⟩), qFI_fr hF hn (fun k i q => e k i ⟨by omega, by omega, by omega, by omega, by omega, by omega, by omega, by omega, by omega, by omega, by omega⟩), (e _ _ ⟨by omega, by omega, by omega, by omega, by omega, by omega, by omega, by omega, by omega, by omega, by omega⟩).trans hb⟩
theorem qR_fr {M M' : gM} (h : qR M) (e : ∀ k i, qrel k i → M' k i = M k i) : qR M' := by
  obtain ⟨D, hW, hC⟩ := h
  exact ⟨D, hW, qRC_fr hC hW.1.1 hW.1.2.1 e⟩
/-- other numbers for the same town -/
theorem qTW_D {D D' : Nat → Nat → Nat} {M : gM} (h : qTW D M) (e : ∀ c i, (c = 0 ∧ i ≤ 2 ∨ c = 1 ∨ c = 2 ∨ 6 ≤ c ∧ c ≤ 11) → D' c i = D c i) : qTW D' M := by
  obtain ⟨h1, h2, h3, h4, h5, h6, h7⟩ := h
  unfold qTW
  simp (disch := omega) only [e]
  exact ⟨h1, h2, h3, h4, h5, h6, h7⟩
theorem qBT_D {D D' : Nat → Nat → Nat} (h : qBT D) (e : ∀ c i, (c = 0 ∧ i ≤ 2 ∨ c = 1 ∨ c = 2 ∨ 6 ≤ c ∧ c ≤ 11) → D' c i = D c i) : qBT D' := by
  unfold qBT
  simp (disch := omega) only [e]
  exact h
theorem qSV_D {n : Nat} {D D' : Nat → Nat → Nat} {M : gM} {t w : Nat} (h : qSV n D M t w) (e : ∀ c i, (c = 0 ∧ (i = 4 ∨ i = 5 ∨ i = 10) ∨ 3 ≤ c ∧ c ≤ 5) → D' c i = D c i) : qSV n D' M t w := by
  unfold qSV
  simp (disch := omega) only [e]
  exact h
theorem qBV_D {n : Nat} {D D' : Nat → Nat → Nat} (h : qBV n D) (e : ∀ c i, (c = 0 ∧ (i = 4 ∨ i = 5 ∨ i = 10) ∨ 3 ≤ c ∧ c ≤ 5) → D' c i = D c i) : qBV n D' := by
  unfold qBV
  simp (disch := omega) only [e]
  exact h
theorem qLK_D {D D' : Nat → Nat → Nat} {M : gM} (h : qLK D M) (e : ∀ c i, (c = 0 ∧ i = 9 ∨ 17 ≤ c ∧ c ≤ 19) → D' c i = D c i) : qLK D' M := by
  unfold qLK qmk
  simp (disch := omega) only [e]
  exact h
theorem qBL_D {D D' : Nat → Nat → Nat} (h : qBL D) (e : ∀ c i, (c = 0 ∧ (i = 0 ∨ i = 9) ∨ c = 1 ∨ 17 ≤ c ∧ c ≤ 19) → D' c i = D c i) : qBL D' := by
  unfold qBL
  simp (disch := omega) only [e]
  exact h
theorem qTX_D {D D' : Nat → Nat → Nat} {M : gM} (h : qTX D M) (e : ∀ c i, (c = 0 ∧ i = 3 ∨ c = 12) → D' c i = D c i) : qTX D' M := by
  unfold qTX
  simp (disch := omega) only [e]
  exact h
theorem qSG_D {D D' : Nat → Nat → Nat} {M : gM} (h : qSG D M) (e : ∀ c i, (c = 0 ∧ i = 7 ∨ 13 ≤ c ∧ c ≤ 14) → D' c i = D c i) : qSG D' M := by
  unfold qSG
  simp (disch := omega) only [e]
  exact h
theorem qBK_D {D D' : Nat → Nat → Nat} {M : gM} (h : qBK D M) (e : ∀ c i, (c = 0 ∧ i = 8 ∨ 15 ≤ c ∧ c ≤ 16) → D' c i = D c i) : qBK D' M := by
  unfold qBK
  simp (disch := omega) only [e]
  exact h
theorem qBX_D {D D' : Nat → Nat → Nat} (h : qBX D) (e : ∀ c i, (c = 0 ∧ (i = 0 ∨ i = 3 ∨ i = 7 ∨ i = 8) ∨ 12 ≤ c ∧ c ≤ 16) → D' c i = D c i) : qBX D' := by
  unfold qBX
  simp (disch := omega) only [e]
  exact h
/-- a change of what goes on alone: the class's objects 26 to 29, the model's row 0 -/
theorem qR_state {D D' : Nat → Nat → Nat} {M M' : gM} (hW : qWF D) (hC : qRC D M) (e : ∀ k i, qrel k i → ¬ (26 ≤ k ∧ k ≤ 29) → ¬ (k = 96 ∧ i < 40) → M' k i = M k i)
    (eD : ∀ c i, ¬ (c = 0 ∧ (i = 4 ∨ i = 5 ∨ i = 10)) → ¬ (3 ≤ c ∧ c ≤ 5) → D' c i = D c i) (hV : qBV (D 0 0) D') (hS : qSV (D 0 0) D' M' 26 0) : qR M' := by
  obtain ⟨w1, w2, w3, w4⟩ := hW
  obtain ⟨hT, -, hX, hL, hG, hB, hF, hb⟩ := hC
  have e0 : D' 0 0 = D 0 0 := eD _ _ (by omega) (by omega)
  refine ⟨D', ⟨qBT_D w1 (fun c i q => eD c i (by omega) (by omega)), qBL_D w2 (fun c i q => eD c i (by omega) (by omega)), qBX_D w3 (fun c i q => eD c i (by omega) (by omega)), by rw [e0]; exact hV⟩, ?_, by rw [e0]; exact hS, ?_, ?_, ?_, ?_, by rw [e0]; exact qFI_fr hF w1.1 (fun k i q => e k i ⟨by omega, by omega, by omega, by omega, by omega, by omega, by omega, by omega, by omega, by omega, by omega⟩ (by omega) (by omega)), (e _ _ ⟨by omega, by omega, by omega, by omega, by omega, by omega, by omega, by omega, by omega, by omega, by omega⟩ (by omega) (by omega)).trans hb⟩
  · exact qTW_D (qTW_fr hT w1.1 w1.2.1 (fun k i q => e k i ⟨by omega, by omega, by omega, by omega, by omega, by omega, by omega, by omega, by omega, by omega, by omega⟩ (by omega) (by omega))) (fun c i q => eD c i (by omega) (by omega))
  · exact qTX_D (qTX_fr hX (fun k i q => e k i ⟨by omega, by omega, by omega, by omega, by omega, by omega, by omega, by omega, by omega, by omega, by omega⟩ (by omega) (by omega))) (fun c i q => eD c i (by omega) (by omega))
  · exact qLK_D (qLK_fr hL (fun k i q => e k i ⟨by omega, by omega, by omega, by omega, by omega, by omega, by omega, by omega, by omega, by omega, by omega⟩ (by omega) (by omega))) (fun c i q => eD c i (by omega) (by omega))
  · exact qSG_D (qSG_fr hG (fun k i q => e k i ⟨by omega, by omega, by omega, by omega, by omega, by omega, by omega, by omega, by omega, by omega, by omega⟩ (by omega) (by omega))) (fun c i q => eD c i (by omega) (by omega))
  · exact qBK_D (qBK_fr hB (fun k i q => e k i ⟨by omega, by omega, by omega, by omega, by omega, by omega, by omega, by omega, by omega, by omega, by omega⟩ (by omega) (by omega))) (fun c i q => eD c i (by omega) (by omega))
