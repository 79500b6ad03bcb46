/-! feed -/
theorem fd_8k (k : Nat) : (8 : Int32) * nI k = nI (8 * k) := pk_mul 8 k
theorem fd_bit {k : Nat} (hk : k < 8) (x : Int64) : ((x >>> (((8 : Int32) * nI k).toInt64 &&& 63)) &&& (255 : Int64)).toInt32 = (((x.toUInt64 >>> (((8 : Int32) * nI k).toInt64.toUInt64 &&& Int64.toUInt64 63)).toInt64).toInt32) &&& (255 : Int32) := by
  rw [fd_8k, wb_c _ (by omega), wb_cu _ (by omega)]
  apply b_ext
  intro i hi
  rw [b_and, b_255]
  have e1 : bt ((x >>> lN (8 * k) &&& (255 : Int64)).toInt32) i = ((x >>> lN (8 * k)).toBitVec.getLsbD i && (255 : Int64).toBitVec.getLsbD i) := by
    unfold bt
    rw [Int64.toBitVec_toInt32, BitVec.getLsbD_signExtend, Int64.toBitVec_and, BitVec.getLsbD_and, if_pos (by omega), decide_eq_true hi, Bool.true_and]
  have e2 : (x >>> lN (8 * k)).toBitVec.getLsbD i = x.toBitVec.getLsbD (8 * k + i) ∨ 8 ≤ i := by
    by_cases h8 : 8 ≤ i
    · exact .inr h8
    · refine .inl ?_
      rw [Int64.toBitVec_shiftRight]
      show (x.toBitVec.sshiftRight ((lN (8 * k)).toBitVec.smod 64).toNat).getLsbD i = _
      have e3 : ((lN (8 * k)).toBitVec.smod 64).toNat = 8 * k := by
        rw [wb_tb, wb_sm _ (by omega), BitVec.toNat_ofNat]
        omega
      rw [e3, BitVec.getLsbD_sshiftRight]
      have e4 : decide (64 ≤ i) = false := decide_eq_false (by omega)
      rw [e4, if_pos (by omega)]
      rfl
  have e5 : bt ((x.toUInt64 >>> UInt64.ofNat (8 * k)).toInt64.toInt32) i = x.toBitVec.getLsbD (8 * k + i) := by
    unfold bt
    rw [Int64.toBitVec_toInt32, BitVec.getLsbD_signExtend, if_pos (by omega)]
    show (decide (i < 32) && (x.toUInt64 >>> UInt64.ofNat (8 * k)).toBitVec.getLsbD i) = _
    rw [UInt64.toBitVec_shiftRight]
    show (decide (i < 32) && (x.toUInt64.toBitVec >>> ((UInt64.ofNat (8 * k)).toBitVec % 64).toNat).getLsbD i) = _
    have e3 : ((UInt64.ofNat (8 * k)).toBitVec % 64).toNat = 8 * k := by
      show (BitVec.ofNat 64 (8 * k) % 64).toNat = 8 * k
      rw [BitVec.toNat_umod, BitVec.toNat_ofNat]
      show 8 * k % 2 ^ 64 % 64 = 8 * k
      omega
    rw [e3, BitVec.getLsbD_ushiftRight, decide_eq_true hi]
    rfl
  have e6 : (255 : Int64).toBitVec.getLsbD i = decide (i < 8) := (by decide +kernel : ∀ i, i < 32 → (255 : Int64).toBitVec.getLsbD i = decide (i < 8)) i hi
  rw [e1, e5, e6]
  rcases e2 with e2 | e2
  · rw [e2]
  · rw [decide_eq_false (by omega), Bool.and_false, Bool.and_false]
/-- the k-th byte -/
def fd_by (x : Int64) (k : Nat) : Nat := ((((x.toUInt64 >>> (((8 : Int32) * nI k).toInt64.toUInt64 &&& Int64.toUInt64 63)).toInt64).toInt32).toBitVec.toNat) % 2 ^ 8
theorem fd_e8 (x : Int64) (k : Nat) : (((x.toUInt64 >>> (((8 : Int32) * nI k).toInt64.toUInt64 &&& Int64.toUInt64 63)).toInt64).toInt32) &&& (255 : Int32) = nI (fd_by x k) := pk_and _ 8 rfl
theorem fd_e9 (x : Int64) {k : Nat} (hk : k < 8) : ((x >>> (((8 : Int32) * nI k).toInt64 &&& 63)) &&& (255 : Int64)).toInt32 = nI (fd_by x k) := (fd_bit hk x).trans (fd_e8 x k)
theorem fd_le (x : Int64) (k : Nat) : fd_by x k ≤ 255 := by
  have : fd_by x k < 2 ^ 8 := Nat.mod_lt _ (by decide)
  omega
theorem e8_feed {F n tl : Nat} (hF : 4000 ≤ F) (h1 : 1 ≤ n) (h8 : n ≤ 8) (ht : tl + n ≤ 400) (x : Int64) (M : gM) (hM : M 1 1 = nI tl) : ∃ M', f_X8_feed F (nI n) x M = some (nI (tl + n), M') ∧ (∀ k, k ≠ 1 → k ≠ 2 → M' k = M k) ∧ M' 1 1 = nI (tl + n) ∧ (∀ j, j < tl → M' 2 j = M 2 j) ∧ ∀ j, j < n → M' 2 (tl + j) = nI (fd_by x (n - 1 - j)) := by
  obtain ⟨s, ⟨q1, q2, q3, q4⟩, h3⟩ := dn_inv (fun m c (N : gM) => f_X8_feed_h37 F (nI n) x m (dn c) N) (fun c N => c ≤ n ∧ (∀ k, k ≠ 1 → k ≠ 2 → N k = M k) ∧ N 1 1 = nI (tl + (n - c)) ∧ (∀ j, j < tl → N 2 j = M 2 j) ∧ ∀ j, j < n - c → N 2 (tl + j) = nI (fd_by x (n - 1 - j))) (by
    rintro m c N ⟨q0, q1, q2, q3, q4⟩
    refine ⟨gst (gst N 2 (tl + (n - (c + 1))) (nI (fd_by x c))) 1 1 (nI (tl + (n - c))), ⟨by omega, fun k k1 k2 => ?_, ?_, fun j hj => ?_, fun j hj => ?_⟩, ?_⟩
    · rw [gst_ne _ _ _ _ k1, gst_ne _ _ _ _ k2, q1 k k1 k2]
    · rw [gst_v, if_pos ⟨rfl, rfl⟩]
    · rw [gst_v, gst_v, if_neg (by omega), if_neg (by omega), q3 j hj]
    · rw [gst_v, gst_v, if_neg (by omega)]
      by_cases e : j = n - (c + 1)
      · rw [if_pos ⟨rfl, by omega⟩, show n - 1 - j = c by omega]
      · rw [if_neg (by omega), q4 j (by omega)]
    · show f_X8_feed_h37_b F (nI n) x (f_X8_feed_h37 F (nI n) x m) (dn (c + 1)) N = f_X8_feed_h37 F (nI n) x m (dn c) _
      unfold f_X8_feed_h37_b f_X6_add
      rw [dn_s, fd_e8]
      have e : tl + (n - (c + 1)) + 1 = tl + (n - c) := by omega
      simp (disch := omega) only [pn_lt, pn_ltM, pl_ofN, ↓pl_m1, pl_lit, fa_litL, pn_bs, ck_n, ckh_n, ck_t, ckh_t, nI_add, nI_clamp, nI_ltI, nI_leI, nI_eq, m1_eq, m1_eq2, m1_lt, m1_le, m1_lt2, m1_le2, m1_m1, nI_m1, nI_subn, gb_n, Nat.add_zero, Nat.zero_add, Nat.zero_or, Nat.or_zero, nle_f, nle_t, nlt_f, nlt_t, neq_f, neq_t, Bool.false_eq_true, eq_self, if_true, if_false, ite_true, ite_false, and_true, true_and, and_false, false_and, decide_true, decide_false, Bool.and_true, Bool.true_and, Bool.and_false, Bool.false_and, Bool.or_false, Bool.false_or, Bool.or_true, Bool.true_or, Bool.not_true, Bool.not_false, not_true_eq_false, not_false_eq_true, q2, gst_v, nI_lt0, e]
      rfl) n M F (by omega) ⟨Nat.le_refl _, fun _ _ _ => rfl, by rw [hM]; congr 1; omega, fun _ _ => rfl, fun j hj => by omega⟩
  rw [Nat.sub_zero] at q3
  refine ⟨s, ?_, q2, q3, q4.1, fun j hj => q4.2 j (by omega)⟩
  unfold f_X8_feed
  have e : nI n - nI 1 = dn n := by
    obtain ⟨m, rfl⟩ : ∃ m, n = m + 1 := ⟨n - 1, by omega⟩
    rw [dn_s]; exact nI_pred m
  rw [← e, nI_subn (by omega)] at h3
  simp (disch := omega) only [pn_lt, pn_ltM, pl_ofN, ↓pl_m1, pl_lit, fa_litL, pn_bs, ck_n, ckh_n, ck_t, ckh_t, nI_add, nI_clamp, nI_ltI, nI_leI, nI_eq, m1_eq, m1_eq2, m1_lt, m1_le, m1_lt2, m1_le2, m1_m1, nI_m1, nI_subn, gb_n, Nat.add_zero, Nat.zero_add, Nat.zero_or, Nat.or_zero, nle_f, nle_t, nlt_f, nlt_t, neq_f, neq_t, Bool.false_eq_true, eq_self, if_true, if_false, ite_true, ite_false, and_true, true_and, and_false, false_and, decide_true, decide_false, Bool.and_true, Bool.true_and, Bool.and_false, Bool.false_and, Bool.or_false, Bool.false_or, Bool.or_true, Bool.true_or, Bool.not_true, Bool.not_false, not_true_eq_false, not_false_eq_true, hM]
  refine h3.trans ?_
  obtain ⟨n', e2⟩ : ∃ n', F - n = n' + 1 := ⟨F - n - 1, by omega⟩
  rw [e2]
  show f_X8_feed_h37_b F (nI n) x (f_X8_feed_h37 F (nI n) x n') (dn 0) s = _
  unfold f_X8_feed_h37_b
  rw [dn_0]
  simp (disch := omega) only [pn_lt, pn_ltM, pl_ofN, ↓pl_m1, pl_lit, fa_litL, pn_bs, ck_n, ckh_n, ck_t, ckh_t, nI_add, nI_clamp, nI_ltI, nI_leI, nI_eq, m1_eq, m1_eq2, m1_lt, m1_le, m1_lt2, m1_le2, m1_m1, nI_m1, nI_subn, gb_n, Nat.add_zero, Nat.zero_add, Nat.zero_or, Nat.or_zero, nle_f, nle_t, nlt_f, nlt_t, neq_f, neq_t, Bool.false_eq_true, eq_self, if_true, if_false, ite_true, ite_false, and_true, true_and, and_false, false_and, decide_true, decide_false, Bool.and_true, Bool.true_and, Bool.and_false, Bool.false_and, Bool.or_false, Bool.false_or, Bool.or_true, Bool.true_or, Bool.not_true, Bool.not_false, not_true_eq_false, not_false_eq_true, q3]
theorem e9_feed {F n tl : Nat} (hF : 4000 ≤ F) (h1 : 1 ≤ n) (h8 : n ≤ 8) (ht : tl + n ≤ 400) (x : Int64) (M : gM) (hM : M 95 14 = nI tl) : ∃ M', f_X9_feed F (nI n) x M = some (nI (tl + n), M') ∧ (∀ k, k ≠ 95 → k ≠ 109 → M' k = M k) ∧ (∀ j, j ≠ 14 → M' 95 j = M 95 j) ∧ M' 95 14 = nI (tl + n) ∧ (∀ j, j < tl → M' 109 j = M 109 j) ∧ ∀ j, j < n → M' 109 (tl + j) = nI (fd_by x (n - 1 - j)) := by
  obtain ⟨s, ⟨q1, q2, q5, q3, q4⟩, h3⟩ := dn_inv (fun m c (N : gM) => f_X9_feed_h35 F (nI n) x m (dn c) N) (fun c N => c ≤ n ∧ (∀ k, k ≠ 95 → k ≠ 109 → N k = M k) ∧ (∀ j, j ≠ 14 → N 95 j = M 95 j) ∧ N 95 14 = nI (tl + (n - c)) ∧ (∀ j, j < tl → N 109 j = M 109 j) ∧ ∀ j, j < n - c → N 109 (tl + j) = nI (fd_by x (n - 1 - j))) (by
    rintro m c N ⟨q0, q1, q5, q2, q3, q4⟩
    refine ⟨gst (gst N 109 (tl + (n - (c + 1))) (nI (fd_by x c))) 95 14 (nI (tl + (n - c))), ⟨by omega, fun k k1 k2 => ?_, fun j hj => ?_, ?_, fun j hj => ?_, fun j hj => ?_⟩, ?_⟩
    · rw [gst_ne _ _ _ _ k1, gst_ne _ _ _ _ k2, q1 k k1 k2]
    · rw [gst_v, gst_v, if_neg (by omega), if_neg (by omega), q5 j hj]
    · rw [gst_v, if_pos ⟨rfl, rfl⟩]
    · rw [gst_v, gst_v, if_neg (by omega), if_neg (by omega), q3 j hj]
    · rw [gst_v, gst_v, if_neg (by omega)]
      by_cases e : j = n - (c + 1)
      · rw [if_pos ⟨rfl, by omega⟩, show n - 1 - j = c by omega]
      · rw [if_neg (by omega), q4 j (by omega)]
    · show f_X9_feed_h35_b F (nI n) x (f_X9_feed_h35 F (nI n) x m) (dn (c + 1)) N = f_X9_feed_h35 F (nI n) x m (dn c) _
      unfold f_X9_feed_h35_b
      rw [dn_s, fd_e9 _ (by omega)]
      have e : tl + (n - (c + 1)) + 1 = tl + (n - c) := by omega
      simp (disch := omega) only [pn_lt, pn_ltM, pl_ofN, ↓pl_m1, pl_lit, fa_litL, pn_bs, ck_n, ckh_n, ck_t, ckh_t, nI_add, nI_clamp, nI_ltI, nI_leI, nI_eq, m1_eq, m1_eq2, m1_lt, m1_le, m1_lt2, m1_le2, m1_m1, nI_m1, nI_subn, gb_n, Nat.add_zero, Nat.zero_add, Nat.zero_or, Nat.or_zero, nle_f, nle_t, nlt_f, nlt_t, neq_f, neq_t, Bool.false_eq_true, eq_self, if_true, if_false, ite_true, ite_false, and_true, true_and, and_false, false_and, decide_true, decide_false, Bool.and_true, Bool.true_and, Bool.and_false, Bool.false_and, Bool.or_false, Bool.false_or, Bool.or_true, Bool.true_or, Bool.not_true, Bool.not_false, not_true_eq_false, not_false_eq_true, q2, gst_v, nI_lt0, e]
      rfl) n M F (by omega) ⟨Nat.le_refl _, fun _ _ _ => rfl, fun _ _ => rfl, by rw [hM]; congr 1; omega, fun _ _ => rfl, fun j hj => by omega⟩
  rw [Nat.sub_zero] at q3
  refine ⟨s, ?_, q2, q5, q3, q4.1, fun j hj => q4.2 j (by omega)⟩
  unfold f_X9_feed
  have e : nI n - nI 1 = dn n := by
    obtain ⟨m, rfl⟩ : ∃ m, n = m + 1 := ⟨n - 1, by omega⟩
    rw [dn_s]; exact nI_pred m
  rw [← e, nI_subn (by omega)] at h3
  simp (disch := omega) only [pn_lt, pn_ltM, pl_ofN, ↓pl_m1, pl_lit, fa_litL, pn_bs, ck_n, ckh_n, ck_t, ckh_t, nI_add, nI_clamp, nI_ltI, nI_leI, nI_eq, m1_eq, m1_eq2, m1_lt, m1_le, m1_lt2, m1_le2, m1_m1, nI_m1, nI_subn, gb_n, Nat.add_zero, Nat.zero_add, Nat.zero_or, Nat.or_zero, nle_f, nle_t, nlt_f, nlt_t, neq_f, neq_t, Bool.false_eq_true, eq_self, if_true, if_false, ite_true, ite_false, and_true, true_and, and_false, false_and, decide_true, decide_false, Bool.and_true, Bool.true_and, Bool.and_false, Bool.false_and, Bool.or_false, Bool.false_or, Bool.or_true, Bool.true_or, Bool.not_true, Bool.not_false, not_true_eq_false, not_false_eq_true, e9_inL, hM]
  refine h3.trans ?_
  obtain ⟨n', e2⟩ : ∃ n', F - n = n' + 1 := ⟨F - n - 1, by omega⟩
  rw [e2]
  show f_X9_feed_h35_b F (nI n) x (f_X9_feed_h35 F (nI n) x n') (dn 0) s = _
  unfold f_X9_feed_h35_b
  rw [dn_0]
  simp (disch := omega) only [pn_lt, pn_ltM, pl_ofN, ↓pl_m1, pl_lit, fa_litL, pn_bs, ck_n, ckh_n, ck_t, ckh_t, nI_add, nI_clamp, nI_ltI, nI_leI, nI_eq, m1_eq, m1_eq2, m1_lt, m1_le, m1_lt2, m1_le2, m1_m1, nI_m1, nI_subn, gb_n, Nat.add_zero, Nat.zero_add, Nat.zero_or, Nat.or_zero, nle_f, nle_t, nlt_f, nlt_t, neq_f, neq_t, Bool.false_eq_true, eq_self, if_true, if_false, ite_true, ite_false, and_true, true_and, and_false, false_and, decide_true, decide_false, Bool.and_true, Bool.true_and, Bool.and_false, Bool.false_and, Bool.or_false, Bool.false_or, Bool.or_true, Bool.true_or, Bool.not_true, Bool.not_false, not_true_eq_false, not_false_eq_true, q3]
