/-! a look for a scene -/
theorem nI_andn' (a b : Nat) : nI a &&& (nI b ^^^ m1) = nI (andn a b) := nI_andn a b
theorem andn_zero {a b : Nat} : andn a b = 0 ↔ ∀ p, a.testBit p = true → b.testBit p = true := by
  constructor
  · intro h p hp
    have h1 := andn_bit a b p
    rw [h, Nat.zero_testBit, hp] at h1
    cases hb : b.testBit p
    · rw [hb] at h1
      simp at h1
    · rfl
  · intro h
    apply Nat.eq_of_testBit_eq
    intro p
    rw [andn_bit, Nat.zero_testBit]
    cases ha : a.testBit p
    · rfl
    · rw [h p ha]; rfl
theorem andn_lt {a b n : Nat} (h : a < 2 ^ n) : andn a b < 2 ^ n := lt_bits (fun q hq => by
  rw [andn_bit, bits_of_lt h hq, Bool.false_and])
theorem andn_1024 {a b : Nat} (h : a < 1024) : andn a b < 1024 := andn_lt (n := 10) h
theorem andn_0 (a : Nat) : andn a 0 = a := by
  apply Nat.eq_of_testBit_eq
  intro p
  rw [andn_bit, Nat.zero_testBit]
  simp
theorem frB_iff {D : Nat → Nat → Nat} {bn h a : Nat} : ∀ {n : Nat}, frB D bn h a n = true ↔ ∀ p, p < n → a.testBit p = true → fhB D h p = true ∧ bn.testBit p = false
  | 0 => ⟨fun _ p hp => absurd hp (Nat.not_lt_zero _), fun _ => rfl⟩
  | n + 1 => by
    have e : frB D bn h a (n + 1) = (frB D bn h a n && (!a.testBit n || (fhB D h n && !bn.testBit n))) := rfl
    rw [e, Bool.and_eq_true, frB_iff (n := n)]
    constructor
    · intro ⟨h1, h2⟩ p hp hpa
      by_cases e2 : p = n
      · subst e2
        rw [hpa] at h2
        cases h3 : fhB D h p <;> cases h4 : bn.testBit p <;> rw [h3, h4] at h2 <;> simp at h2 ⊢
      · exact h1 p (by omega) hpa
    · intro h1
      refine ⟨fun p hp hpa => h1 p (by omega) hpa, ?_⟩
      cases h5 : a.testBit n
      · rfl
      · obtain ⟨h6, h7⟩ := h1 n (by omega) h5
        rw [h6, h7]; rfl
theorem free_iff {D : Nat → Nat → Nat} {bn h a n : Nat} (ha : a < 2 ^ n) : andn a (andn (bsN (fhB D h) n) bn) = 0 ↔ frB D bn h a n = true := by
  rw [andn_zero, frB_iff]
  constructor
  · intro q p hp hpa
    have := q p hpa
    rw [andn_bit, bsN_bit, decide_eq_true hp, Bool.true_and, Bool.and_eq_true] at this
    refine ⟨this.1, ?_⟩
    cases h2 : bn.testBit p
    · rfl
    · rw [h2] at this; exact absurd this.2 (by simp)
  · intro q p hpa
    have hp : p < n := by
      rcases Nat.lt_or_ge p n with h2 | h2
      · exact h2
      · rw [bits_of_lt ha h2] at hpa; exact absurd hpa (by simp)
    obtain ⟨q1, q2⟩ := q p hp hpa
    rw [andn_bit, bsN_bit, decide_eq_true hp, q1, q2]
    rfl
/-- the look i is for the scene s, without the banned -/
def lfB (D : Nat → Nat → Nat) (bn i s : Nat) : Bool := frB D bn (D 9 s) (qmk D i) (D 0 0) && (decide (D 10 s ≤ w3 D (D 3) i) && decide (w3 D (D 3) i ≤ D 11 s))
section EV
variable {D : Nat → Nat → Nat} {M : gM}
theorem w3_le (hW : qWF D) {i c : Nat} (hi : i < D 0 9) {f : Nat → Nat} (hf : ∀ p, p < D 0 0 → f p ≤ c) : w3 D f i ≤ 3 * c := by
  obtain ⟨a1, a2, a3, -⟩ := hW.2.1.2 i hi
  unfold w3
  have := hf _ a1
  have := hf _ a2
  have := hf _ a3
  omega
theorem wd_le (hW : qWF D) {i : Nat} (hi : i < D 0 9) : w3 D (D 3) i ≤ 27 := w3_le hW hi (c := 9) (fun p hp => (hW.2.2.2.2.2.2.1 p hp).1)
theorem pr_le (hW : qWF D) {i : Nat} (hi : i < D 0 9) : w3 D (D 4) i ≤ 297 := w3_le hW hi (c := 99) (fun p hp => (hW.2.2.2.2.2.2.1 p hp).2)
theorem e2_widthOf (hW : qWF D) (hL : qLK D M) (hS : qSV (D 0 0) D M 26 0) {i : Nat} (hi : i < D 0 9) : f_X2_sumOf (nI i) 27 10 M = some (nI (w3 D (D 3) i)) :=
  e2_sumOf hW hL hi (fun p hp => (hS.2.2.2.2.2.2.2.1 p hp).1)
theorem e2_priceOf (hW : qWF D) (hL : qLK D M) (hS : qSV (D 0 0) D M 26 0) {i : Nat} (hi : i < D 0 9) : f_X2_sumOf (nI i) 28 10 M = some (nI (w3 D (D 4) i)) :=
  e2_sumOf hW hL hi (fun p hp => (hS.2.2.2.2.2.2.2.1 p hp).2.1)
theorem e9_widthOf {F a : Nat} (hF : 4000 ≤ F) (hW : qWF D) (hT : qTW D M) (hS : qSV (D 0 0) D M 26 0) (ha : a < 1024) : f_X9_sumOf F (nI 0) (nI a) M = some (nI (sS (D 3) a (D 0 0))) :=
  e9_sumOf hF hW hT ha (by omega) (fun p hp => (hS.2.2.2.2.2.2.2.1 p hp).2.2.1)
theorem e9_priceOf {F a : Nat} (hF : 4000 ≤ F) (hW : qWF D) (hT : qTW D M) (hS : qSV (D 0 0) D M 26 0) (ha : a < 1024) : f_X9_sumOf F (nI 10) (nI a) M = some (nI (sS (D 4) a (D 0 0))) :=
  e9_sumOf hF hW hT ha (by omega) (fun p hp => by
    have := (hS.2.2.2.2.2.2.2.1 p hp).2.2.2.1
    rw [Nat.zero_add] at this
    exact this)
theorem e2_isFor (hW : qWF D) (hT : qTW D M) (hL : qLK D M) (hS : qSV (D 0 0) D M 26 0) {i s bn : Nat} (hi : i < D 0 9) (hs : s < D 0 1) : f_X2_isFor (nI i) (nI s) (nI (andn (bsN (fhB D (D 9 s)) (D 0 0)) bn)) M = some (nI (if lfB D bn i s then 1 else 0)) := by
  have hn := hW.1.1
  have hs8 := hW.1.2.1
  have hwd := wd_le hW hi
  obtain ⟨c1, c2, c3⟩ := hW.1.2.2.2.2.1 s hs
  obtain ⟨t1, t2, t3, t4, t5, t6⟩ := hT.2.2.2.2.2.2 s hs
  have hk := qmk_lt hW hi
  have hk2 := qmk_1024 hW hi
  have e0 := e2_widthOf hW hL hS hi
  have ea : andn (qmk D i) (andn (bsN (fhB D (D 9 s)) (D 0 0)) bn) < 1024 := andn_1024 hk2
  unfold f_X2_isFor f_X7_hasScene lfB
  by_cases h1 : frB D bn (D 9 s) (qmk D i) (D 0 0)
  · have h1' := (free_iff (bn := bn) (h := D 9 s) hk).mpr h1
    by_cases h2 : D 10 s ≤ w3 D (D 3) i
    · by_cases h3 : w3 D (D 3) i ≤ D 11 s
      · simp (disch := omega) only [pn_lt, pn_ltM, pl_ofN, ↓pl_m1, pl_lit, fa_litL, pn_bs, ck_n, ckh_n, ck_t, ckh_t, nI_add, nI_clamp, nI_ltI, nI_leI, nI_eq, m1_eq, m1_eq2, m1_lt, m1_le, m1_lt2, m1_le2, m1_m1, nI_m1, nI_subn, gb_n, Nat.add_zero, Nat.zero_add, Nat.zero_or, Nat.or_zero, nle_f, nle_t, nlt_f, nlt_t, neq_f, neq_t, Bool.false_eq_true, eq_self, if_true, if_false, ite_true, ite_false, and_true, true_and, and_false, false_and, decide_true, decide_false, Bool.and_true, Bool.true_and, Bool.and_false, Bool.false_and, Bool.or_false, Bool.false_or, Bool.or_true, Bool.true_or, Bool.not_true, Bool.not_false, not_true_eq_false, not_false_eq_true, hT.2.1, e2_partsOf hW hL hi, nI_andn', h1', e0, t2, t3, h1]
      · simp (disch := omega) only [pn_lt, pn_ltM, pl_ofN, ↓pl_m1, pl_lit, fa_litL, pn_bs, ck_n, ckh_n, ck_t, ckh_t, nI_add, nI_clamp, nI_ltI, nI_leI, nI_eq, m1_eq, m1_eq2, m1_lt, m1_le, m1_lt2, m1_le2, m1_m1, nI_m1, nI_subn, gb_n, Nat.add_zero, Nat.zero_add, Nat.zero_or, Nat.or_zero, nle_f, nle_t, nlt_f, nlt_t, neq_f, neq_t, Bool.false_eq_true, eq_self, if_true, if_false, ite_true, ite_false, and_true, true_and, and_false, false_and, decide_true, decide_false, Bool.and_true, Bool.true_and, Bool.and_false, Bool.false_and, Bool.or_false, Bool.false_or, Bool.or_true, Bool.true_or, Bool.not_true, Bool.not_false, not_true_eq_false, not_false_eq_true, hT.2.1, e2_partsOf hW hL hi, nI_andn', h1', e0, t2, t3, h1]
    · simp (disch := omega) only [pn_lt, pn_ltM, pl_ofN, ↓pl_m1, pl_lit, fa_litL, pn_bs, ck_n, ckh_n, ck_t, ckh_t, nI_add, nI_clamp, nI_ltI, nI_leI, nI_eq, m1_eq, m1_eq2, m1_lt, m1_le, m1_lt2, m1_le2, m1_m1, nI_m1, nI_subn, gb_n, Nat.add_zero, Nat.zero_add, Nat.zero_or, Nat.or_zero, nle_f, nle_t, nlt_f, nlt_t, neq_f, neq_t, Bool.false_eq_true, eq_self, if_true, if_false, ite_true, ite_false, and_true, true_and, and_false, false_and, decide_true, decide_false, Bool.and_true, Bool.true_and, Bool.and_false, Bool.false_and, Bool.or_false, Bool.false_or, Bool.or_true, Bool.true_or, Bool.not_true, Bool.not_false, not_true_eq_false, not_false_eq_true, hT.2.1, e2_partsOf hW hL hi, nI_andn', h1', e0, t2, t3, h1]
  · have h1' := mt (free_iff (bn := bn) (h := D 9 s) hk).mp h1
    simp (disch := omega) only [pn_lt, pn_ltM, pl_ofN, ↓pl_m1, pl_lit, fa_litL, pn_bs, ck_n, ckh_n, ck_t, ckh_t, nI_add, nI_clamp, nI_ltI, nI_leI, nI_eq, m1_eq, m1_eq2, m1_lt, m1_le, m1_lt2, m1_le2, m1_m1, nI_m1, nI_subn, gb_n, Nat.add_zero, Nat.zero_add, Nat.zero_or, Nat.or_zero, nle_f, nle_t, nlt_f, nlt_t, neq_f, neq_t, Bool.false_eq_true, eq_self, if_true, if_false, ite_true, ite_false, and_true, true_and, and_false, false_and, decide_true, decide_false, Bool.and_true, Bool.true_and, Bool.and_false, Bool.false_and, Bool.or_false, Bool.false_or, Bool.or_true, Bool.true_or, Bool.not_true, Bool.not_false, not_true_eq_false, not_false_eq_true, hT.2.1, e2_partsOf hW hL hi, nI_andn', h1', h1]
theorem e9_isFor {F i s bn : Nat} (hF : 4000 ≤ F) (hW : qWF D) (hT : qTW D M) (hS : qSV (D 0 0) D M 26 0) (hb : M 95 22 = nI bn) (hbn : bn < 1024) (hi : i < D 0 9) (hs : s < D 0 1) : f_X9_isFor F (nI 0) (nI (qmk D i)) (nI s) M = some (nI (if lfB D bn i s then 1 else 0)) := by
  have hn := hW.1.1
  have hs8 := hW.1.2.1
  have hwd := wd_le hW hi
  obtain ⟨c1, c2, c3⟩ := hW.1.2.2.2.2.1 s hs
  obtain ⟨t1, t2, t3, t4, t5, t6⟩ := hT.2.2.2.2.2.2 s hs
  have hk2 := qmk_1024 hW hi
  have e0 := e9_widthOf hF hW hT hS hk2
  rw [sS_qmk hW hi] at e0
  have e1 := e9_isFree (h := D 9 s) hF hW hT hk2 c1 hb hbn
  unfold f_X9_isFor lfB
  by_cases h1 : frB D bn (D 9 s) (qmk D i) (D 0 0)
  · by_cases h2 : D 10 s ≤ w3 D (D 3) i
    · by_cases h3 : w3 D (D 3) i ≤ D 11 s
      · simp (disch := omega) only [pn_lt, pn_ltM, pl_ofN, ↓pl_m1, pl_lit, fa_litL, pn_bs, ck_n, ckh_n, ck_t, ckh_t, nI_add, nI_clamp, nI_ltI, nI_leI, nI_eq, m1_eq, m1_eq2, m1_lt, m1_le, m1_lt2, m1_le2, m1_m1, nI_m1, nI_subn, gb_n, Nat.add_zero, Nat.zero_add, Nat.zero_or, Nat.or_zero, nle_f, nle_t, nlt_f, nlt_t, neq_f, neq_t, Bool.false_eq_true, eq_self, if_true, if_false, ite_true, ite_false, and_true, true_and, and_false, false_and, decide_true, decide_false, Bool.and_true, Bool.true_and, Bool.and_false, Bool.false_and, Bool.or_false, Bool.false_or, Bool.or_true, Bool.true_or, Bool.not_true, Bool.not_false, not_true_eq_false, not_false_eq_true, t4, t5, t6, e1, e0, h1, e9_in]
      · simp (disch := omega) only [pn_lt, pn_ltM, pl_ofN, ↓pl_m1, pl_lit, fa_litL, pn_bs, ck_n, ckh_n, ck_t, ckh_t, nI_add, nI_clamp, nI_ltI, nI_leI, nI_eq, m1_eq, m1_eq2, m1_lt, m1_le, m1_lt2, m1_le2, m1_m1, nI_m1, nI_subn, gb_n, Nat.add_zero, Nat.zero_add, Nat.zero_or, Nat.or_zero, nle_f, nle_t, nlt_f, nlt_t, neq_f, neq_t, Bool.false_eq_true, eq_self, if_true, if_false, ite_true, ite_false, and_true, true_and, and_false, false_and, decide_true, decide_false, Bool.and_true, Bool.true_and, Bool.and_false, Bool.false_and, Bool.or_false, Bool.false_or, Bool.or_true, Bool.true_or, Bool.not_true, Bool.not_false, not_true_eq_false, not_false_eq_true, t4, t5, t6, e1, e0, h1, e9_in]
    · simp (disch := omega) only [pn_lt, pn_ltM, pl_ofN, ↓pl_m1, pl_lit, fa_litL, pn_bs, ck_n, ckh_n, ck_t, ckh_t, nI_add, nI_clamp, nI_ltI, nI_leI, nI_eq, m1_eq, m1_eq2, m1_lt, m1_le, m1_lt2, m1_le2, m1_m1, nI_m1, nI_subn, gb_n, Nat.add_zero, Nat.zero_add, Nat.zero_or, Nat.or_zero, nle_f, nle_t, nlt_f, nlt_t, neq_f, neq_t, Bool.false_eq_true, eq_self, if_true, if_false, ite_true, ite_false, and_true, true_and, and_false, false_and, decide_true, decide_false, Bool.and_true, Bool.true_and, Bool.and_false, Bool.false_and, Bool.or_false, Bool.false_or, Bool.or_true, Bool.true_or, Bool.not_true, Bool.not_false, not_true_eq_false, not_false_eq_true, t4, t5, t6, e1, e0, h1, e9_in]
  · simp (disch := omega) only [pn_lt, pn_ltM, pl_ofN, ↓pl_m1, pl_lit, fa_litL, pn_bs, ck_n, ckh_n, ck_t, ckh_t, nI_add, nI_clamp, nI_ltI, nI_leI, nI_eq, m1_eq, m1_eq2, m1_lt, m1_le, m1_lt2, m1_le2, m1_m1, nI_m1, nI_subn, gb_n, Nat.add_zero, Nat.zero_add, Nat.zero_or, Nat.or_zero, nle_f, nle_t, nlt_f, nlt_t, neq_f, neq_t, Bool.false_eq_true, eq_self, if_true, if_false, ite_true, ite_false, and_true, true_and, and_false, false_and, decide_true, decide_false, Bool.and_true, Bool.true_and, Bool.and_false, Bool.false_and, Bool.or_false, Bool.false_or, Bool.or_true, Bool.true_or, Bool.not_true, Bool.not_false, not_true_eq_false, not_false_eq_true, t4, t5, t6, e1, h1, e9_in]
end EV
