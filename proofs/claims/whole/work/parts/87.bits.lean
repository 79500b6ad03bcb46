/-! how many ones; grow; told -/
theorem by_and {h l mh ml : Nat} (hl : l < 256) (hm : ml < 256) : (256 * h + l) &&& (256 * mh + ml) = 256 * (h &&& mh) + (l &&& ml) := by
  have hlm : l &&& ml < 2 ^ 8 := Nat.lt_of_le_of_lt Nat.and_le_left hl
  apply Nat.eq_of_testBit_eq
  intro j
  rw [Nat.testBit_and, show (256 : Nat) = 2 ^ 8 from rfl, Nat.testBit_two_pow_mul_add _ hl, Nat.testBit_two_pow_mul_add _ hm, Nat.testBit_two_pow_mul_add _ hlm]
  by_cases q : j < 8
  · rw [if_pos q, if_pos q, if_pos q, Nat.testBit_and]
  · rw [if_neg q, if_neg q, if_neg q, Nat.testBit_and]
def bp1 (l : Nat) : Nat := l - (l / 2 &&& 85)
def bp2 (l : Nat) : Nat := (l &&& 51) + (l / 4 &&& 51)
def bp3 (l : Nat) : Nat := (l + l / 16) &&& 15
theorem b1_lo : ∀ l, l < 256 → ∀ t, t < 2 → (128 * t + l / 2) &&& 85 = (l / 2) &&& 85 := by decide +kernel
theorem b2_lo : ∀ l, l < 256 → ∀ t, t < 4 → (64 * t + l / 4) &&& 51 = (l / 4) &&& 51 := by decide +kernel
theorem b3_lo : ∀ l, l < 69 → ∀ t, t < 5 → (16 * t + (l + l / 16)) &&& 15 = (l + l / 16) &&& 15 := by decide +kernel
theorem b12 : ∀ l, l < 256 → bp1 l < 256 ∧ bp2 (bp1 l) < 69 ∧ bp2 (bp1 l) % 16 < 5 ∧ bp3 (bp2 (bp1 l)) = fb_ct (fun k => l.testBit k) 8 := by decide +kernel
theorem b12s : ∀ l, l < 16 → fb_ct (fun k => l.testBit k) 8 = fb_ct (fun k => l.testBit k) 4 := by decide +kernel
theorem bs_1 {h l mh : Nat} (hl : l < 256) : (256 * h + l) / 2 &&& (256 * mh + 85) = 256 * (h / 2 &&& mh) + (l / 2 &&& 85) := by
  have e : (256 * h + l) / 2 = 256 * (h / 2) + (128 * (h % 2) + l / 2) := by omega
  rw [e, by_and (by omega) (by omega), b1_lo l hl _ (by omega)]
theorem bs_2 {h l mh : Nat} (hl : l < 256) : (256 * h + l) / 4 &&& (256 * mh + 51) = 256 * (h / 4 &&& mh) + (l / 4 &&& 51) := by
  have e : (256 * h + l) / 4 = 256 * (h / 4) + (64 * (h % 4) + l / 4) := by omega
  rw [e, by_and (by omega) (by omega), b2_lo l hl _ (by omega)]
theorem bs_3 {h l mh : Nat} (hl : l < 69) (hh : h % 16 < 5) : (256 * h + l + (256 * h + l) / 16) &&& (256 * mh + 15) = 256 * ((h + h / 16) &&& mh) + ((l + l / 16) &&& 15) := by
  have e : 256 * h + l + (256 * h + l) / 16 = 256 * (h + h / 16) + (16 * (h % 16) + (l + l / 16)) := by omega
  rw [e, by_and (by omega) (by omega), b3_lo l hl _ hh]
theorem bs_ct {h l n : Nat} (hl : l < 256) : fb_ct (fun k => (256 * h + l).testBit k) (8 + n) = fb_ct (fun k => l.testBit k) 8 + fb_ct (fun k => h.testBit k) n := by
  rw [fb_ct_split]
  congr 1
  · refine fb_ct_cong (fun k hk => ?_)
    rw [show (256 : Nat) = 2 ^ 8 from rfl, Nat.testBit_two_pow_mul_add _ hl, if_pos hk]
  · refine fb_ct_cong (fun k _ => ?_)
    rw [show (256 : Nat) = 2 ^ 8 from rfl, Nat.testBit_two_pow_mul_add _ hl, if_neg (by omega)]
    congr 1
    omega
theorem fb_ct_8 (p : Nat → Bool) : fb_ct p 8 ≤ 8 := fb_ct_le p 8
theorem bc_fin {x0 x1 x2 x3 : Nat} (h0 : x0 ≤ 8) (h1 : x1 ≤ 8) (h2 : x2 ≤ 8) (h3 : x3 ≤ 8) : (256 * (256 * (256 * x3 + x2) + x1) + x0 + (256 * (256 * (256 * x3 + x2) + x1) + x0) / 256 + (256 * (256 * (256 * x3 + x2) + x1) + x0 + (256 * (256 * (256 * x3 + x2) + x1) + x0) / 256) / 65536) % 2 ^ 6 = x0 + (x1 + (x2 + x3)) := by
  have e1 : (256 * (256 * (256 * x3 + x2) + x1) + x0) / 256 = 256 * (256 * x3 + x2) + x1 := by omega
  rw [e1]
  have e2 : (256 * (256 * (256 * x3 + x2) + x1) + x0 + (256 * (256 * x3 + x2) + x1)) / 65536 = 256 * x3 + x2 + x3 := by omega
  rw [e2]
  omega
theorem e_bitCount {a : Nat} (ha : a < 2 ^ 28) (M : gM) : f_J6_bitCount_0f7a4 (nI a) M = some (nI (fb_ct (fun k => a.testBit k) 28)) := by
  obtain ⟨b0, b1, b2, b3, h0, h1, h2, h3, rfl⟩ : ∃ b0 b1 b2 b3, b0 < 256 ∧ b1 < 256 ∧ b2 < 256 ∧ b3 < 16 ∧ a = 256 * (256 * (256 * b3 + b2) + b1) + b0 := ⟨a % 256, a / 256 % 256, a / 65536 % 256, a / 16777216, by omega, by omega, by omega, by omega, by omega⟩
  obtain ⟨c0, d0, m0, p0⟩ := b12 b0 h0
  obtain ⟨c1, d1, m1', p1⟩ := b12 b1 h1
  obtain ⟨c2, d2, m2, p2⟩ := b12 b2 h2
  obtain ⟨c3, d3, m3, p3⟩ := b12 b3 (by omega)
  have l0 : b0 / 2 &&& 85 ≤ b0 := Nat.le_trans Nat.and_le_left (by omega)
  have l1 : b1 / 2 &&& 85 ≤ b1 := Nat.le_trans Nat.and_le_left (by omega)
  have l2 : b2 / 2 &&& 85 ≤ b2 := Nat.le_trans Nat.and_le_left (by omega)
  have l3 : b3 / 2 &&& 85 ≤ b3 := Nat.le_trans Nat.and_le_left (by omega)
  have A : (256 * (256 * (256 * b3 + b2) + b1) + b0) / 2 &&& 1431655765 = 256 * (256 * (256 * (b3 / 2 &&& 85) + (b2 / 2 &&& 85)) + (b1 / 2 &&& 85)) + (b0 / 2 &&& 85) := by
    rw [show (1431655765 : Nat) = 256 * (256 * (256 * 85 + 85) + 85) + 85 from rfl, bs_1 h0, bs_1 h1, bs_1 h2]
  have V1 : 256 * (256 * (256 * b3 + b2) + b1) + b0 - (256 * (256 * (256 * (b3 / 2 &&& 85) + (b2 / 2 &&& 85)) + (b1 / 2 &&& 85)) + (b0 / 2 &&& 85)) = 256 * (256 * (256 * bp1 b3 + bp1 b2) + bp1 b1) + bp1 b0 := by
    unfold bp1
    omega
  have W1 : 256 * (256 * (256 * (b3 / 2 &&& 85) + (b2 / 2 &&& 85)) + (b1 / 2 &&& 85)) + (b0 / 2 &&& 85) ≤ 256 * (256 * (256 * b3 + b2) + b1) + b0 := by omega
  have B : (256 * (256 * (256 * bp1 b3 + bp1 b2) + bp1 b1) + bp1 b0) / 4 &&& 858993459 = 256 * (256 * (256 * (bp1 b3 / 4 &&& 51) + (bp1 b2 / 4 &&& 51)) + (bp1 b1 / 4 &&& 51)) + (bp1 b0 / 4 &&& 51) := by
    rw [show (858993459 : Nat) = 256 * (256 * (256 * 51 + 51) + 51) + 51 from rfl, bs_2 c0, bs_2 c1, bs_2 c2]
  have B2 : (256 * (256 * (256 * bp1 b3 + bp1 b2) + bp1 b1) + bp1 b0) &&& 858993459 = 256 * (256 * (256 * (bp1 b3 &&& 51) + (bp1 b2 &&& 51)) + (bp1 b1 &&& 51)) + (bp1 b0 &&& 51) := by
    rw [show (858993459 : Nat) = 256 * (256 * (256 * 51 + 51) + 51) + 51 from rfl, by_and c0 (by omega), by_and c1 (by omega), by_and c2 (by omega)]
  have V2 : 256 * (256 * (256 * (bp1 b3 &&& 51) + (bp1 b2 &&& 51)) + (bp1 b1 &&& 51)) + (bp1 b0 &&& 51) + (256 * (256 * (256 * (bp1 b3 / 4 &&& 51) + (bp1 b2 / 4 &&& 51)) + (bp1 b1 / 4 &&& 51)) + (bp1 b0 / 4 &&& 51)) = 256 * (256 * (256 * bp2 (bp1 b3) + bp2 (bp1 b2)) + bp2 (bp1 b1)) + bp2 (bp1 b0) := by
    unfold bp2
    omega
  have C : (256 * (256 * (256 * bp2 (bp1 b3) + bp2 (bp1 b2)) + bp2 (bp1 b1)) + bp2 (bp1 b0) + (256 * (256 * (256 * bp2 (bp1 b3) + bp2 (bp1 b2)) + bp2 (bp1 b1)) + bp2 (bp1 b0)) / 16) &&& 252645135 = 256 * (256 * (256 * bp3 (bp2 (bp1 b3)) + bp3 (bp2 (bp1 b2))) + bp3 (bp2 (bp1 b1))) + bp3 (bp2 (bp1 b0)) := by
    rw [show (252645135 : Nat) = 256 * (256 * (256 * 15 + 15) + 15) + 15 from rfl, bs_3 d0 (by omega), bs_3 d1 (by omega), bs_3 d2 m3]
    rfl
  rw [p0, p1, p2, p3] at C
  have E : fb_ct (fun k => (256 * (256 * (256 * b3 + b2) + b1) + b0).testBit k) 28 = fb_ct (fun k => b0.testBit k) 8 + (fb_ct (fun k => b1.testBit k) 8 + (fb_ct (fun k => b2.testBit k) 8 + fb_ct (fun k => b3.testBit k) 8)) := by
    rw [show (28 : Nat) = 8 + (8 + (8 + 4)) from rfl, bs_ct h0, bs_ct h1, bs_ct h2, b12s b3 h3]
  have q0 := fb_ct_8 (fun k => b0.testBit k)
  have q1 := fb_ct_8 (fun k => b1.testBit k)
  have q2 := fb_ct_8 (fun k => b2.testBit k)
  have q3 := fb_ct_8 (fun k => b3.testBit k)
  rw [E]
  generalize fb_ct (fun k => b0.testBit k) 8 = x0 at *
  generalize fb_ct (fun k => b1.testBit k) 8 = x1 at *
  generalize fb_ct (fun k => b2.testBit k) 8 = x2 at *
  generalize fb_ct (fun k => b3.testBit k) 8 = x3 at *
  unfold f_J6_bitCount_0f7a4
  rw [pl_lt, pk_ushrN (by omega) 1 1 rfl, show (1431655765 : Int32) = nI 1431655765 from rfl, fa_and, show (2 : Nat) ^ 1 = 2 from rfl, A, nI_subn W1, V1]
  rw [pl_lt, pk_ushrN (by omega) 2 2 rfl, show (858993459 : Int32) = nI 858993459 from rfl, fa_and, fa_and, show (2 : Nat) ^ 2 = 4 from rfl, B, B2, nI_add, V2]
  rw [pl_lt, pk_ushrN (by omega) 4 4 rfl, show (252645135 : Int32) = nI 252645135 from rfl, nI_add, fa_and, show (2 : Nat) ^ 4 = 16 from rfl, C]
  rw [pl_lt, pk_ushrN (by omega) 8 8 rfl, nI_add, show (2 : Nat) ^ 8 = 256 from rfl]
  rw [pl_lt, pk_ushrN (by omega) 16 16 rfl, nI_add, show (2 : Nat) ^ 16 = 65536 from rfl]
  rw [show (63 : Int32) = nI (2 ^ 6 - 1) from rfl, fa_mask]
  rw [bc_fin q0 q1 q2 q3]
theorem nI_bit' {a j : Nat} (ha : a < 2 ^ 31) (hj : j < 31) : (nI a >>> (nI j &&& nI 31)) &&& nI 1 = nI (if a.testBit j then 1 else 0) := nI_bit ha hj
theorem e9_ones {F a : Nat} (hF : 4000 ≤ F) (ha : a < 2 ^ 31) (M : gM) : f_X9_ones F (nI a) M = some (nI (fb_ct (fun k => a.testBit k) 28)) := by
  obtain ⟨y, h1, h2⟩ := up_inv (fun n i (y : Int32) => f_X9_ones_h4 F (nI a) M n y (nI i)) 28 (fun i y => y = nI (fb_ct (fun k => a.testBit k) i)) (by
    intro n i y hi hy
    refine ⟨_, rfl, ?_⟩
    subst hy
    show f_X9_ones_h4_b _ _ _ _ _ _ = _
    unfold f_X9_ones_h4_b
    rw [fb_ct_succ]
    simp (disch := omega) only [pn_lt, pn_ltM, pl_ofN, ↓pl_m1, pl_lit, fa_litL, pn_bs, ck_n, ckh_n, ck_t, ckh_t, nI_add, nI_clamp, nI_ltI, nI_leI, nI_eq, m1_eq, m1_eq2, m1_lt, m1_le, m1_lt2, m1_le2, m1_m1, nI_m1, nI_subn, gb_n, Nat.add_zero, Nat.zero_add, Nat.zero_or, Nat.or_zero, nle_f, nle_t, nlt_f, nlt_t, neq_f, neq_t, Bool.false_eq_true, eq_self, if_true, if_false, ite_true, ite_false, and_true, true_and, and_false, false_and, decide_true, decide_false, Bool.and_true, Bool.true_and, Bool.and_false, Bool.false_and, Bool.or_false, Bool.false_or, Bool.or_true, Bool.true_or, Bool.not_true, Bool.not_false, not_true_eq_false, not_false_eq_true, nI_bit']) 28 0 (nI 0) F (by omega) (by omega) rfl
  unfold f_X9_ones
  refine h2.trans ?_
  obtain ⟨n', e⟩ : ∃ n', F - 28 = n' + 1 := ⟨F - 29, by omega⟩
  rw [e]
  show f_X9_ones_h4_b _ _ _ _ _ _ = _
  unfold f_X9_ones_h4_b
  simp (disch := omega) only [pn_lt, pn_ltM, pl_ofN, ↓pl_m1, pl_lit, fa_litL, pn_bs, ck_n, ckh_n, ck_t, ckh_t, nI_add, nI_clamp, nI_ltI, nI_leI, nI_eq, m1_eq, m1_eq2, m1_lt, m1_le, m1_lt2, m1_le2, m1_m1, nI_m1, nI_subn, gb_n, Nat.add_zero, Nat.zero_add, Nat.zero_or, Nat.or_zero, nle_f, nle_t, nlt_f, nlt_t, neq_f, neq_t, Bool.false_eq_true, eq_self, if_true, if_false, ite_true, ite_false, and_true, true_and, and_false, false_and, decide_true, decide_false, Bool.and_true, Bool.true_and, Bool.and_false, Bool.false_and, Bool.or_false, Bool.false_or, Bool.or_true, Bool.true_or, Bool.not_true, Bool.not_false, not_true_eq_false, not_false_eq_true, h1]
section EV
variable {D : Nat → Nat → Nat} {M : gM}
theorem e9_clashMany {F : Nat} (hF : 4000 ≤ F) (hW : qWF D) (hT : qTW D M) : f_X9_clashMany F M = some (nI (D 0 2)) := by
  have hn := hW.1.1
  have h108 := hT.2.2.2.1
  have hcl := hW.1.2.2.2.2.2
  have hnc := hW.1.2.2.1
  obtain ⟨y, h1, h2⟩ := up_inv (fun n i (y : Int32) => f_X9_clashMany_h4 F M n y (nI i)) (D 0 0) (fun i y => y = nI (fb_sm (fun p => fb_ct (fun q => (D 8 p).testBit q) 28) i)) (by
    intro n i y hi hy
    refine ⟨_, rfl, ?_⟩
    subst hy
    show f_X9_clashMany_h4_b _ _ _ _ _ = _
    unfold f_X9_clashMany_h4_b
    rw [fb_sm_succ]
    have c5 := (hW.1.2.2.2.1 i hi).2.2.2.2
    have c6 := Nat.lt_of_lt_of_le c5 (p2_31 hn)
    have e1 := e9_ones (a := D 8 i) hF (by omega) M
    have t10 := (hT.2.2.2.2.2.1 i hi).2.2.2.2.2.2.2.2.2
    simp (disch := omega) only [pn_lt, pn_ltM, pl_ofN, ↓pl_m1, pl_lit, fa_litL, pn_bs, ck_n, ckh_n, ck_t, ckh_t, nI_add, nI_clamp, nI_ltI, nI_leI, nI_eq, m1_eq, m1_eq2, m1_lt, m1_le, m1_lt2, m1_le2, m1_m1, nI_m1, nI_subn, gb_n, Nat.add_zero, Nat.zero_add, Nat.zero_or, Nat.or_zero, nle_f, nle_t, nlt_f, nlt_t, neq_f, neq_t, Bool.false_eq_true, eq_self, if_true, if_false, ite_true, ite_false, and_true, true_and, and_false, false_and, decide_true, decide_false, Bool.and_true, Bool.true_and, Bool.and_false, Bool.false_and, Bool.or_false, Bool.false_or, Bool.or_true, Bool.true_or, Bool.not_true, Bool.not_false, not_true_eq_false, not_false_eq_true, h108, t10, e1]) (D 0 0) 0 (nI 0) F (by omega) (by omega) rfl
  unfold f_X9_clashMany
  refine h2.trans ?_
  obtain ⟨n', e⟩ : ∃ n', F - D 0 0 = n' + 1 := ⟨F - D 0 0 - 1, by omega⟩
  rw [e]
  show f_X9_clashMany_h4_b _ _ _ _ _ = _
  unfold f_X9_clashMany_h4_b
  rw [h1, hcl]
  have e2 : nI (2 * D 0 2) / nI 2 = nI (D 0 2) := by
    rw [pk_div (by omega) (by omega) (by omega)]
    congr 1
    omega
  simp (disch := omega) only [pn_lt, pn_ltM, pl_ofN, ↓pl_m1, pl_lit, fa_litL, pn_bs, ck_n, ckh_n, ck_t, ckh_t, nI_add, nI_clamp, nI_ltI, nI_leI, nI_eq, m1_eq, m1_eq2, m1_lt, m1_le, m1_lt2, m1_le2, m1_m1, nI_m1, nI_subn, gb_n, Nat.add_zero, Nat.zero_add, Nat.zero_or, Nat.or_zero, nle_f, nle_t, nlt_f, nlt_t, neq_f, neq_t, Bool.false_eq_true, eq_self, if_true, if_false, ite_true, ite_false, and_true, true_and, and_false, false_and, decide_true, decide_false, Bool.and_true, Bool.true_and, Bool.and_false, Bool.false_and, Bool.or_false, Bool.false_or, Bool.or_true, Bool.true_or, Bool.not_true, Bool.not_false, not_true_eq_false, not_false_eq_true, h108, e2]
theorem q_told {F : Nat} (hF : 4000 ≤ F) (a : Int32) (h : qR M) : eqR (f_X8_told F a M) (f_X9_told F a M) := by
  obtain ⟨D, hW, hT, hS, hX, hL, hG, hB, hFI, hb⟩ := h
  unfold f_X8_told f_X9_told
  rcases rg_le a 10 (by omega) with h0 | h0 | ⟨j, hj, rfl⟩
  · exact ⟨-nI 1000000002, by simp (disch := omega) only [pn_lt, pn_ltM, pl_ofN, ↓pl_m1, pl_lit, fa_litL, pn_bs, ck_n, ckh_n, ck_t, ckh_t, nI_add, nI_clamp, nI_ltI, nI_leI, nI_eq, m1_eq, m1_eq2, m1_lt, m1_le, m1_lt2, m1_le2, m1_m1, nI_m1, nI_subn, gb_n, Nat.add_zero, Nat.zero_add, Nat.zero_or, Nat.or_zero, nle_f, nle_t, nlt_f, nlt_t, neq_f, neq_t, Bool.false_eq_true, eq_self, if_true, if_false, ite_true, ite_false, and_true, true_and, and_false, false_and, decide_true, decide_false, Bool.and_true, Bool.true_and, Bool.and_false, Bool.false_and, Bool.or_false, Bool.false_or, Bool.or_true, Bool.true_or, Bool.not_true, Bool.not_false, not_true_eq_false, not_false_eq_true, i_neL h0], by simp (disch := omega) only [pn_lt, pn_ltM, pl_ofN, ↓pl_m1, pl_lit, fa_litL, pn_bs, ck_n, ckh_n, ck_t, ckh_t, nI_add, nI_clamp, nI_ltI, nI_leI, nI_eq, m1_eq, m1_eq2, m1_lt, m1_le, m1_lt2, m1_le2, m1_m1, nI_m1, nI_subn, gb_n, Nat.add_zero, Nat.zero_add, Nat.zero_or, Nat.or_zero, nle_f, nle_t, nlt_f, nlt_t, neq_f, neq_t, Bool.false_eq_true, eq_self, if_true, if_false, ite_true, ite_false, and_true, true_and, and_false, false_and, decide_true, decide_false, Bool.and_true, Bool.true_and, Bool.and_false, Bool.false_and, Bool.or_false, Bool.false_or, Bool.or_true, Bool.true_or, Bool.not_true, Bool.not_false, not_true_eq_false, not_false_eq_true, i_neL h0]⟩
  · exact ⟨-nI 1000000002, by simp (disch := omega) only [pn_lt, pn_ltM, pl_ofN, ↓pl_m1, pl_lit, fa_litL, pn_bs, ck_n, ckh_n, ck_t, ckh_t, nI_add, nI_clamp, nI_ltI, nI_leI, nI_eq, m1_eq, m1_eq2, m1_lt, m1_le, m1_lt2, m1_le2, m1_m1, nI_m1, nI_subn, gb_n, Nat.add_zero, Nat.zero_add, Nat.zero_or, Nat.or_zero, nle_f, nle_t, nlt_f, nlt_t, neq_f, neq_t, Bool.false_eq_true, eq_self, if_true, if_false, ite_true, ite_false, and_true, true_and, and_false, false_and, decide_true, decide_false, Bool.and_true, Bool.true_and, Bool.and_false, Bool.false_and, Bool.or_false, Bool.false_or, Bool.or_true, Bool.true_or, Bool.not_true, Bool.not_false, not_true_eq_false, not_false_eq_true, i_neG h0], by simp (disch := omega) only [pn_lt, pn_ltM, pl_ofN, ↓pl_m1, pl_lit, fa_litL, pn_bs, ck_n, ckh_n, ck_t, ckh_t, nI_add, nI_clamp, nI_ltI, nI_leI, nI_eq, m1_eq, m1_eq2, m1_lt, m1_le, m1_lt2, m1_le2, m1_m1, nI_m1, nI_subn, gb_n, Nat.add_zero, Nat.zero_add, Nat.zero_or, Nat.or_zero, nle_f, nle_t, nlt_f, nlt_t, neq_f, neq_t, Bool.false_eq_true, eq_self, if_true, if_false, ite_true, ite_false, and_true, true_and, and_false, false_and, decide_true, decide_false, Bool.and_true, Bool.true_and, Bool.and_false, Bool.false_and, Bool.or_false, Bool.false_or, Bool.or_true, Bool.true_or, Bool.not_true, Bool.not_false, not_true_eq_false, not_false_eq_true, i_neG h0]⟩
  · obtain ⟨t1, t2, t3, t4, t5, -⟩ := id hT
    obtain ⟨s1, s2, s3, s4, s5, s6, s7, -⟩ := id hS
    simp only [Nat.zero_add] at s4 s5 s6 s7
    rcases (by omega : j = 0 ∨ j = 1 ∨ j = 2 ∨ j = 3 ∨ j = 4 ∨ j = 5 ∨ j = 6 ∨ j = 7 ∨ j = 8 ∨ j = 9 ∨ j = 10) with e | e | e | e | e | e | e | e | e | e | e <;> subst e
    · exact ⟨nI (D 0 0), by simp (disch := omega) only [pn_lt, pn_ltM, pl_ofN, ↓pl_m1, pl_lit, fa_litL, pn_bs, ck_n, ckh_n, ck_t, ckh_t, nI_add, nI_clamp, nI_ltI, nI_leI, nI_eq, m1_eq, m1_eq2, m1_lt, m1_le, m1_lt2, m1_le2, m1_m1, nI_m1, nI_subn, gb_n, Nat.add_zero, Nat.zero_add, Nat.zero_or, Nat.or_zero, nle_f, nle_t, nlt_f, nlt_t, neq_f, neq_t, Bool.false_eq_true, eq_self, if_true, if_false, ite_true, ite_false, and_true, true_and, and_false, false_and, decide_true, decide_false, Bool.and_true, Bool.true_and, Bool.and_false, Bool.false_and, Bool.or_false, Bool.false_or, Bool.or_true, Bool.true_or, Bool.not_true, Bool.not_false, not_true_eq_false, not_false_eq_true, t1], by simp (disch := omega) only [pn_lt, pn_ltM, pl_ofN, ↓pl_m1, pl_lit, fa_litL, pn_bs, ck_n, ckh_n, ck_t, ckh_t, nI_add, nI_clamp, nI_ltI, nI_leI, nI_eq, m1_eq, m1_eq2, m1_lt, m1_le, m1_lt2, m1_le2, m1_m1, nI_m1, nI_subn, gb_n, Nat.add_zero, Nat.zero_add, Nat.zero_or, Nat.or_zero, nle_f, nle_t, nlt_f, nlt_t, neq_f, neq_t, Bool.false_eq_true, eq_self, if_true, if_false, ite_true, ite_false, and_true, true_and, and_false, false_and, decide_true, decide_false, Bool.and_true, Bool.true_and, Bool.and_false, Bool.false_and, Bool.or_false, Bool.false_or, Bool.or_true, Bool.true_or, Bool.not_true, Bool.not_false, not_true_eq_false, not_false_eq_true, t4]⟩
    · exact ⟨nI (D 0 1), by simp (disch := omega) only [pn_lt, pn_ltM, pl_ofN, ↓pl_m1, pl_lit, fa_litL, pn_bs, ck_n, ckh_n, ck_t, ckh_t, nI_add, nI_clamp, nI_ltI, nI_leI, nI_eq, m1_eq, m1_eq2, m1_lt, m1_le, m1_lt2, m1_le2, m1_m1, nI_m1, nI_subn, gb_n, Nat.add_zero, Nat.zero_add, Nat.zero_or, Nat.or_zero, nle_f, nle_t, nlt_f, nlt_t, neq_f, neq_t, Bool.false_eq_true, eq_self, if_true, if_false, ite_true, ite_false, and_true, true_and, and_false, false_and, decide_true, decide_false, Bool.and_true, Bool.true_and, Bool.and_false, Bool.false_and, Bool.or_false, Bool.false_or, Bool.or_true, Bool.true_or, Bool.not_true, Bool.not_false, not_true_eq_false, not_false_eq_true, t2], by simp (disch := omega) only [pn_lt, pn_ltM, pl_ofN, ↓pl_m1, pl_lit, fa_litL, pn_bs, ck_n, ckh_n, ck_t, ckh_t, nI_add, nI_clamp, nI_ltI, nI_leI, nI_eq, m1_eq, m1_eq2, m1_lt, m1_le, m1_lt2, m1_le2, m1_m1, nI_m1, nI_subn, gb_n, Nat.add_zero, Nat.zero_add, Nat.zero_or, Nat.or_zero, nle_f, nle_t, nlt_f, nlt_t, neq_f, neq_t, Bool.false_eq_true, eq_self, if_true, if_false, ite_true, ite_false, and_true, true_and, and_false, false_and, decide_true, decide_false, Bool.and_true, Bool.true_and, Bool.and_false, Bool.false_and, Bool.or_false, Bool.false_or, Bool.or_true, Bool.true_or, Bool.not_true, Bool.not_false, not_true_eq_false, not_false_eq_true, t5]⟩
    · have := e9_clashMany hF hW hT
      exact ⟨nI (D 0 2), by simp (disch := omega) only [pn_lt, pn_ltM, pl_ofN, ↓pl_m1, pl_lit, fa_litL, pn_bs, ck_n, ckh_n, ck_t, ckh_t, nI_add, nI_clamp, nI_ltI, nI_leI, nI_eq, m1_eq, m1_eq2, m1_lt, m1_le, m1_lt2, m1_le2, m1_m1, nI_m1, nI_subn, gb_n, Nat.add_zero, Nat.zero_add, Nat.zero_or, Nat.or_zero, nle_f, nle_t, nlt_f, nlt_t, neq_f, neq_t, Bool.false_eq_true, eq_self, if_true, if_false, ite_true, ite_false, and_true, true_and, and_false, false_and, decide_true, decide_false, Bool.and_true, Bool.true_and, Bool.and_false, Bool.false_and, Bool.or_false, Bool.false_or, Bool.or_true, Bool.true_or, Bool.not_true, Bool.not_false, not_true_eq_false, not_false_eq_true, t3], by simp (disch := omega) only [pn_lt, pn_ltM, pl_ofN, ↓pl_m1, pl_lit, fa_litL, pn_bs, ck_n, ckh_n, ck_t, ckh_t, nI_add, nI_clamp, nI_ltI, nI_leI, nI_eq, m1_eq, m1_eq2, m1_lt, m1_le, m1_lt2, m1_le2, m1_m1, nI_m1, nI_subn, gb_n, Nat.add_zero, Nat.zero_add, Nat.zero_or, Nat.or_zero, nle_f, nle_t, nlt_f, nlt_t, neq_f, neq_t, Bool.false_eq_true, eq_self, if_true, if_false, ite_true, ite_false, and_true, true_and, and_false, false_and, decide_true, decide_false, Bool.and_true, Bool.true_and, Bool.and_false, Bool.false_and, Bool.or_false, Bool.false_or, Bool.or_true, Bool.true_or, Bool.not_true, Bool.not_false, not_true_eq_false, not_false_eq_true, this]⟩
    · exact ⟨nI (D 0 3), by simp (disch := omega) only [pn_lt, pn_ltM, pl_ofN, ↓pl_m1, pl_lit, fa_litL, pn_bs, ck_n, ckh_n, ck_t, ckh_t, nI_add, nI_clamp, nI_ltI, nI_leI, nI_eq, m1_eq, m1_eq2, m1_lt, m1_le, m1_lt2, m1_le2, m1_m1, nI_m1, nI_subn, gb_n, Nat.add_zero, Nat.zero_add, Nat.zero_or, Nat.or_zero, nle_f, nle_t, nlt_f, nlt_t, neq_f, neq_t, Bool.false_eq_true, eq_self, if_true, if_false, ite_true, ite_false, and_true, true_and, and_false, false_and, decide_true, decide_false, Bool.and_true, Bool.true_and, Bool.and_false, Bool.false_and, Bool.or_false, Bool.false_or, Bool.or_true, Bool.true_or, Bool.not_true, Bool.not_false, not_true_eq_false, not_false_eq_true, hX.1], by simp (disch := omega) only [pn_lt, pn_ltM, pl_ofN, ↓pl_m1, pl_lit, fa_litL, pn_bs, ck_n, ckh_n, ck_t, ckh_t, nI_add, nI_clamp, nI_ltI, nI_leI, nI_eq, m1_eq, m1_eq2, m1_lt, m1_le, m1_lt2, m1_le2, m1_m1, nI_m1, nI_subn, gb_n, Nat.add_zero, Nat.zero_add, Nat.zero_or, Nat.or_zero, nle_f, nle_t, nlt_f, nlt_t, neq_f, neq_t, Bool.false_eq_true, eq_self, if_true, if_false, ite_true, ite_false, and_true, true_and, and_false, false_and, decide_true, decide_false, Bool.and_true, Bool.true_and, Bool.and_false, Bool.false_and, Bool.or_false, Bool.false_or, Bool.or_true, Bool.true_or, Bool.not_true, Bool.not_false, not_true_eq_false, not_false_eq_true, hX.2.1]⟩
    · exact ⟨nI (D 0 4), by simp (disch := omega) only [pn_lt, pn_ltM, pl_ofN, ↓pl_m1, pl_lit, fa_litL, pn_bs, ck_n, ckh_n, ck_t, ckh_t, nI_add, nI_clamp, nI_ltI, nI_leI, nI_eq, m1_eq, m1_eq2, m1_lt, m1_le, m1_lt2, m1_le2, m1_m1, nI_m1, nI_subn, gb_n, Nat.add_zero, Nat.zero_add, Nat.zero_or, Nat.or_zero, nle_f, nle_t, nlt_f, nlt_t, neq_f, neq_t, Bool.false_eq_true, eq_self, if_true, if_false, ite_true, ite_false, and_true, true_and, and_false, false_and, decide_true, decide_false, Bool.and_true, Bool.true_and, Bool.and_false, Bool.false_and, Bool.or_false, Bool.false_or, Bool.or_true, Bool.true_or, Bool.not_true, Bool.not_false, not_true_eq_false, not_false_eq_true, s2], by simp (disch := omega) only [pn_lt, pn_ltM, pl_ofN, ↓pl_m1, pl_lit, fa_litL, pn_bs, ck_n, ckh_n, ck_t, ckh_t, nI_add, nI_clamp, nI_ltI, nI_leI, nI_eq, m1_eq, m1_eq2, m1_lt, m1_le, m1_lt2, m1_le2, m1_m1, nI_m1, nI_subn, gb_n, Nat.add_zero, Nat.zero_add, Nat.zero_or, Nat.or_zero, nle_f, nle_t, nlt_f, nlt_t, neq_f, neq_t, Bool.false_eq_true, eq_self, if_true, if_false, ite_true, ite_false, and_true, true_and, and_false, false_and, decide_true, decide_false, Bool.and_true, Bool.true_and, Bool.and_false, Bool.false_and, Bool.or_false, Bool.false_or, Bool.or_true, Bool.true_or, Bool.not_true, Bool.not_false, not_true_eq_false, not_false_eq_true, s5]⟩
    · exact ⟨nI (D 0 5), by simp (disch := omega) only [pn_lt, pn_ltM, pl_ofN, ↓pl_m1, pl_lit, fa_litL, pn_bs, ck_n, ckh_n, ck_t, ckh_t, nI_add, nI_clamp, nI_ltI, nI_leI, nI_eq, m1_eq, m1_eq2, m1_lt, m1_le, m1_lt2, m1_le2, m1_m1, nI_m1, nI_subn, gb_n, Nat.add_zero, Nat.zero_add, Nat.zero_or, Nat.or_zero, nle_f, nle_t, nlt_f, nlt_t, neq_f, neq_t, Bool.false_eq_true, eq_self, if_true, if_false, ite_true, ite_false, and_true, true_and, and_false, false_and, decide_true, decide_false, Bool.and_true, Bool.true_and, Bool.and_false, Bool.false_and, Bool.or_false, Bool.false_or, Bool.or_true, Bool.true_or, Bool.not_true, Bool.not_false, not_true_eq_false, not_false_eq_true, s1], by simp (disch := omega) only [pn_lt, pn_ltM, pl_ofN, ↓pl_m1, pl_lit, fa_litL, pn_bs, ck_n, ckh_n, ck_t, ckh_t, nI_add, nI_clamp, nI_ltI, nI_leI, nI_eq, m1_eq, m1_eq2, m1_lt, m1_le, m1_lt2, m1_le2, m1_m1, nI_m1, nI_subn, gb_n, Nat.add_zero, Nat.zero_add, Nat.zero_or, Nat.or_zero, nle_f, nle_t, nlt_f, nlt_t, neq_f, neq_t, Bool.false_eq_true, eq_self, if_true, if_false, ite_true, ite_false, and_true, true_and, and_false, false_and, decide_true, decide_false, Bool.and_true, Bool.true_and, Bool.and_false, Bool.false_and, Bool.or_false, Bool.false_or, Bool.or_true, Bool.true_or, Bool.not_true, Bool.not_false, not_true_eq_false, not_false_eq_true, s4]⟩
    · exact ⟨M 26 4, by simp (disch := omega) only [pn_lt, pn_ltM, pl_ofN, ↓pl_m1, pl_lit, fa_litL, pn_bs, ck_n, ckh_n, ck_t, ckh_t, nI_add, nI_clamp, nI_ltI, nI_leI, nI_eq, m1_eq, m1_eq2, m1_lt, m1_le, m1_lt2, m1_le2, m1_m1, nI_m1, nI_subn, gb_n, Nat.add_zero, Nat.zero_add, Nat.zero_or, Nat.or_zero, nle_f, nle_t, nlt_f, nlt_t, neq_f, neq_t, Bool.false_eq_true, eq_self, if_true, if_false, ite_true, ite_false, and_true, true_and, and_false, false_and, decide_true, decide_false, Bool.and_true, Bool.true_and, Bool.and_false, Bool.false_and, Bool.or_false, Bool.false_or, Bool.or_true, Bool.true_or, Bool.not_true, Bool.not_false, not_true_eq_false, not_false_eq_true], by simp (disch := omega) only [pn_lt, pn_ltM, pl_ofN, ↓pl_m1, pl_lit, fa_litL, pn_bs, ck_n, ckh_n, ck_t, ckh_t, nI_add, nI_clamp, nI_ltI, nI_leI, nI_eq, m1_eq, m1_eq2, m1_lt, m1_le, m1_lt2, m1_le2, m1_m1, nI_m1, nI_subn, gb_n, Nat.add_zero, Nat.zero_add, Nat.zero_or, Nat.or_zero, nle_f, nle_t, nlt_f, nlt_t, neq_f, neq_t, Bool.false_eq_true, eq_self, if_true, if_false, ite_true, ite_false, and_true, true_and, and_false, false_and, decide_true, decide_false, Bool.and_true, Bool.true_and, Bool.and_false, Bool.false_and, Bool.or_false, Bool.false_or, Bool.or_true, Bool.true_or, Bool.not_true, Bool.not_false, not_true_eq_false, not_false_eq_true, s7]⟩
    · exact ⟨nI (D 0 7), by simp (disch := omega) only [pn_lt, pn_ltM, pl_ofN, ↓pl_m1, pl_lit, fa_litL, pn_bs, ck_n, ckh_n, ck_t, ckh_t, nI_add, nI_clamp, nI_ltI, nI_leI, nI_eq, m1_eq, m1_eq2, m1_lt, m1_le, m1_lt2, m1_le2, m1_m1, nI_m1, nI_subn, gb_n, Nat.add_zero, Nat.zero_add, Nat.zero_or, Nat.or_zero, nle_f, nle_t, nlt_f, nlt_t, neq_f, neq_t, Bool.false_eq_true, eq_self, if_true, if_false, ite_true, ite_false, and_true, true_and, and_false, false_and, decide_true, decide_false, Bool.and_true, Bool.true_and, Bool.and_false, Bool.false_and, Bool.or_false, Bool.false_or, Bool.or_true, Bool.true_or, Bool.not_true, Bool.not_false, not_true_eq_false, not_false_eq_true, hG.1], by simp (disch := omega) only [pn_lt, pn_ltM, pl_ofN, ↓pl_m1, pl_lit, fa_litL, pn_bs, ck_n, ckh_n, ck_t, ckh_t, nI_add, nI_clamp, nI_ltI, nI_leI, nI_eq, m1_eq, m1_eq2, m1_lt, m1_le, m1_lt2, m1_le2, m1_m1, nI_m1, nI_subn, gb_n, Nat.add_zero, Nat.zero_add, Nat.zero_or, Nat.or_zero, nle_f, nle_t, nlt_f, nlt_t, neq_f, neq_t, Bool.false_eq_true, eq_self, if_true, if_false, ite_true, ite_false, and_true, true_and, and_false, false_and, decide_true, decide_false, Bool.and_true, Bool.true_and, Bool.and_false, Bool.false_and, Bool.or_false, Bool.false_or, Bool.or_true, Bool.true_or, Bool.not_true, Bool.not_false, not_true_eq_false, not_false_eq_true, hG.2.1]⟩
    · exact ⟨nI (D 0 8), by simp (disch := omega) only [pn_lt, pn_ltM, pl_ofN, ↓pl_m1, pl_lit, fa_litL, pn_bs, ck_n, ckh_n, ck_t, ckh_t, nI_add, nI_clamp, nI_ltI, nI_leI, nI_eq, m1_eq, m1_eq2, m1_lt, m1_le, m1_lt2, m1_le2, m1_m1, nI_m1, nI_subn, gb_n, Nat.add_zero, Nat.zero_add, Nat.zero_or, Nat.or_zero, nle_f, nle_t, nlt_f, nlt_t, neq_f, neq_t, Bool.false_eq_true, eq_self, if_true, if_false, ite_true, ite_false, and_true, true_and, and_false, false_and, decide_true, decide_false, Bool.and_true, Bool.true_and, Bool.and_false, Bool.false_and, Bool.or_false, Bool.false_or, Bool.or_true, Bool.true_or, Bool.not_true, Bool.not_false, not_true_eq_false, not_false_eq_true, hB.1], by simp (disch := omega) only [pn_lt, pn_ltM, pl_ofN, ↓pl_m1, pl_lit, fa_litL, pn_bs, ck_n, ckh_n, ck_t, ckh_t, nI_add, nI_clamp, nI_ltI, nI_leI, nI_eq, m1_eq, m1_eq2, m1_lt, m1_le, m1_lt2, m1_le2, m1_m1, nI_m1, nI_subn, gb_n, Nat.add_zero, Nat.zero_add, Nat.zero_or, Nat.or_zero, nle_f, nle_t, nlt_f, nlt_t, neq_f, neq_t, Bool.false_eq_true, eq_self, if_true, if_false, ite_true, ite_false, and_true, true_and, and_false, false_and, decide_true, decide_false, Bool.and_true, Bool.true_and, Bool.and_false, Bool.false_and, Bool.or_false, Bool.false_or, Bool.or_true, Bool.true_or, Bool.not_true, Bool.not_false, not_true_eq_false, not_false_eq_true, hB.2.1]⟩
    · exact ⟨nI (D 0 9), by simp (disch := omega) only [pn_lt, pn_ltM, pl_ofN, ↓pl_m1, pl_lit, fa_litL, pn_bs, ck_n, ckh_n, ck_t, ckh_t, nI_add, nI_clamp, nI_ltI, nI_leI, nI_eq, m1_eq, m1_eq2, m1_lt, m1_le, m1_lt2, m1_le2, m1_m1, nI_m1, nI_subn, gb_n, Nat.add_zero, Nat.zero_add, Nat.zero_or, Nat.or_zero, nle_f, nle_t, nlt_f, nlt_t, neq_f, neq_t, Bool.false_eq_true, eq_self, if_true, if_false, ite_true, ite_false, and_true, true_and, and_false, false_and, decide_true, decide_false, Bool.and_true, Bool.true_and, Bool.and_false, Bool.false_and, Bool.or_false, Bool.false_or, Bool.or_true, Bool.true_or, Bool.not_true, Bool.not_false, not_true_eq_false, not_false_eq_true, hL.1], by simp (disch := omega) only [pn_lt, pn_ltM, pl_ofN, ↓pl_m1, pl_lit, fa_litL, pn_bs, ck_n, ckh_n, ck_t, ckh_t, nI_add, nI_clamp, nI_ltI, nI_leI, nI_eq, m1_eq, m1_eq2, m1_lt, m1_le, m1_lt2, m1_le2, m1_m1, nI_m1, nI_subn, gb_n, Nat.add_zero, Nat.zero_add, Nat.zero_or, Nat.or_zero, nle_f, nle_t, nlt_f, nlt_t, neq_f, neq_t, Bool.false_eq_true, eq_self, if_true, if_false, ite_true, ite_false, and_true, true_and, and_false, false_and, decide_true, decide_false, Bool.and_true, Bool.true_and, Bool.and_false, Bool.false_and, Bool.or_false, Bool.false_or, Bool.or_true, Bool.true_or, Bool.not_true, Bool.not_false, not_true_eq_false, not_false_eq_true, hL.2.1]⟩
    · have e1 := e2_widths hF hW hT hL hS
      have e2 := e9_widthsIn (x := 0) (f := D 3) hF hW hT hL (by omega) (fun p hp => (hS.2.2.2.2.2.2.2.1 p hp).2.2.1) (fun p hp => (hW.2.2.2.2.2.2.1 p hp).1)
      exact ⟨nI (wuS (w3 D (D 3)) (D 0 9)), by simp (disch := omega) only [pn_lt, pn_ltM, pl_ofN, ↓pl_m1, pl_lit, fa_litL, pn_bs, ck_n, ckh_n, ck_t, ckh_t, nI_add, nI_clamp, nI_ltI, nI_leI, nI_eq, m1_eq, m1_eq2, m1_lt, m1_le, m1_lt2, m1_le2, m1_m1, nI_m1, nI_subn, gb_n, Nat.add_zero, Nat.zero_add, Nat.zero_or, Nat.or_zero, nle_f, nle_t, nlt_f, nlt_t, neq_f, neq_t, Bool.false_eq_true, eq_self, if_true, if_false, ite_true, ite_false, and_true, true_and, and_false, false_and, decide_true, decide_false, Bool.and_true, Bool.true_and, Bool.and_false, Bool.false_and, Bool.or_false, Bool.false_or, Bool.or_true, Bool.true_or, Bool.not_true, Bool.not_false, not_true_eq_false, not_false_eq_true, e1], by simp (disch := omega) only [pn_lt, pn_ltM, pl_ofN, ↓pl_m1, pl_lit, fa_litL, pn_bs, ck_n, ckh_n, ck_t, ckh_t, nI_add, nI_clamp, nI_ltI, nI_leI, nI_eq, m1_eq, m1_eq2, m1_lt, m1_le, m1_lt2, m1_le2, m1_m1, nI_m1, nI_subn, gb_n, Nat.add_zero, Nat.zero_add, Nat.zero_or, Nat.or_zero, nle_f, nle_t, nlt_f, nlt_t, neq_f, neq_t, Bool.false_eq_true, eq_self, if_true, if_false, ite_true, ite_false, and_true, true_and, and_false, false_and, decide_true, decide_false, Bool.and_true, Bool.true_and, Bool.and_false, Bool.false_and, Bool.or_false, Bool.false_or, Bool.or_true, Bool.true_or, Bool.not_true, Bool.not_false, not_true_eq_false, not_false_eq_true, e2]⟩
end EV
