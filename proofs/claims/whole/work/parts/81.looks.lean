/-! looks: what they are, their sums, when they are free -/
/-- the set of those p below n with P -/
def bsN (P : Nat → Bool) : Nat → Nat
  | 0 => 0
  | p + 1 => if P p then bsN P p ||| 2 ^ p else bsN P p
theorem bsN_bit (P : Nat → Bool) (q : Nat) : ∀ n, (bsN P n).testBit q = (decide (q < n) && P q)
  | 0 => by simp [bsN]
  | n + 1 => by
    unfold bsN
    by_cases h : P n
    · rw [if_pos h, Nat.testBit_or, bsN_bit P q n, Nat.testBit_two_pow]
      by_cases e : n = q
      · subst e; simp [h]
      · have e1 : decide (q < n + 1) = decide (q < n) := by
          by_cases h1 : q < n
          · rw [decide_eq_true h1, decide_eq_true (by omega)]
          · rw [decide_eq_false h1, decide_eq_false (by omega)]
        rw [decide_eq_false e, Bool.or_false, e1]
    · rw [if_neg h, bsN_bit P q n]
      by_cases e : q = n
      · subst e; simp [h]
      · have e1 : decide (q < n + 1) = decide (q < n) := by
          by_cases h1 : q < n
          · rw [decide_eq_true h1, decide_eq_true (by omega)]
          · rw [decide_eq_false h1, decide_eq_false (by omega)]
        rw [e1]
theorem lt_bits {a n : Nat} (h : ∀ q, n ≤ q → a.testBit q = false) : a < 2 ^ n := by
  apply Nat.lt_pow_two_of_testBit
  exact h
theorem bsN_lt (P : Nat → Bool) (n : Nat) : bsN P n < 2 ^ n := lt_bits (fun q hq => by
  rw [bsN_bit, decide_eq_false (by omega), Bool.false_and])
theorem p2_31 {n : Nat} (h : n ≤ 10) : 2 ^ n ≤ 1024 := Nat.pow_le_pow_right (by omega) h
theorem bsN_31 (P : Nat → Bool) {n : Nat} (h : n ≤ 10) : bsN P n < 1024 := Nat.lt_of_lt_of_le (bsN_lt P n) (p2_31 h)
theorem bits_of_lt {a n q : Nat} (h : a < 2 ^ n) (hq : n ≤ q) : a.testBit q = false := Nat.testBit_lt_two_pow (Nat.lt_of_lt_of_le h (Nat.pow_le_pow_right (by omega) hq))
theorem nI_shl' {p : Nat} (hp : p < 31) : nI 1 <<< (nI p &&& nI 31) = nI (2 ^ p) := nI_shl hp
theorem pl_or (a b : Nat) : nI a ||| nI b = nI (a ||| b) := fa_or a b
theorem pl_and (a b : Nat) : nI a &&& nI b = nI (a &&& b) := fa_and a b
/-- free in the hour -/
def fhB (D : Nat → Nat → Nat) (h p : Nat) : Bool := decide (D 6 p ≤ h) && decide (h ≤ D 7 p)
section EV
variable {D : Nat → Nat → Nat} {M : gM}
theorem e8_isFree (hW : qWF D) (hT : qTW D M) {p h : Nat} (hp : p < D 0 0) (hh : h ≤ 11) : f_X7_isFree 3 (nI p) (nI h) M = some (nI (if fhB D h p then 1 else 0)) := by
  have hn := hW.1.1
  obtain ⟨c1, c2, c3, c4, c5⟩ := hW.1.2.2.2.1 p hp
  obtain ⟨t1, t2, t3, t4, t5, t6, t7, t8, t9, t10⟩ := hT.2.2.2.2.2.1 p hp
  unfold f_X7_isFree f_X7_hasPart
  have r1 : rf 3 4 = 8 := rfl
  have r2 : rf 3 5 = 9 := rfl
  unfold fhB
  by_cases a1 : D 6 p ≤ h
  · by_cases a2 : h ≤ D 7 p
    · simp (disch := omega) only [pn_lt, pn_ltM, pl_ofN, ↓pl_m1, pl_lit, fa_litL, pn_bs, ck_n, ckh_n, ck_t, ckh_t, nI_add, nI_clamp, nI_ltI, nI_leI, nI_eq, m1_eq, m1_eq2, m1_lt, m1_le, m1_lt2, m1_le2, m1_m1, nI_m1, nI_subn, gb_n, Nat.add_zero, Nat.zero_add, Nat.zero_or, Nat.or_zero, nle_f, nle_t, nlt_f, nlt_t, neq_f, neq_t, Bool.false_eq_true, eq_self, if_true, if_false, ite_true, ite_false, and_true, true_and, and_false, false_and, decide_true, decide_false, Bool.and_true, Bool.true_and, Bool.and_false, Bool.false_and, Bool.or_false, Bool.false_or, Bool.or_true, Bool.true_or, Bool.not_true, Bool.not_false, not_true_eq_false, not_false_eq_true, hT.1, r1, r2, t3, t4]
    · simp (disch := omega) only [pn_lt, pn_ltM, pl_ofN, ↓pl_m1, pl_lit, fa_litL, pn_bs, ck_n, ckh_n, ck_t, ckh_t, nI_add, nI_clamp, nI_ltI, nI_leI, nI_eq, m1_eq, m1_eq2, m1_lt, m1_le, m1_lt2, m1_le2, m1_m1, nI_m1, nI_subn, gb_n, Nat.add_zero, Nat.zero_add, Nat.zero_or, Nat.or_zero, nle_f, nle_t, nlt_f, nlt_t, neq_f, neq_t, Bool.false_eq_true, eq_self, if_true, if_false, ite_true, ite_false, and_true, true_and, and_false, false_and, decide_true, decide_false, Bool.and_true, Bool.true_and, Bool.and_false, Bool.false_and, Bool.or_false, Bool.false_or, Bool.or_true, Bool.true_or, Bool.not_true, Bool.not_false, not_true_eq_false, not_false_eq_true, hT.1, r1, r2, t3, t4]
  · simp (disch := omega) only [pn_lt, pn_ltM, pl_ofN, ↓pl_m1, pl_lit, fa_litL, pn_bs, ck_n, ckh_n, ck_t, ckh_t, nI_add, nI_clamp, nI_ltI, nI_leI, nI_eq, m1_eq, m1_eq2, m1_lt, m1_le, m1_lt2, m1_le2, m1_m1, nI_m1, nI_subn, gb_n, Nat.add_zero, Nat.zero_add, Nat.zero_or, Nat.or_zero, nle_f, nle_t, nlt_f, nlt_t, neq_f, neq_t, Bool.false_eq_true, eq_self, if_true, if_false, ite_true, ite_false, and_true, true_and, and_false, false_and, decide_true, decide_false, Bool.and_true, Bool.true_and, Bool.and_false, Bool.false_and, Bool.or_false, Bool.false_or, Bool.or_true, Bool.true_or, Bool.not_true, Bool.not_false, not_true_eq_false, not_false_eq_true, hT.1, r1, r2, t3, t4]
theorem e8_freeIn {F h : Nat} (hF : 4000 ≤ F) (hW : qWF D) (hT : qTW D M) (hh : h ≤ 11) : f_X7_freeIn F 3 (nI h) M = some (nI (bsN (fhB D h) (D 0 0))) := by
  have hn := hW.1.1
  obtain ⟨s, h1, h2⟩ := up_inv (fun n i (s : Int32) => f_X7_freeIn_h4 F 3 (nI h) M n s (nI i)) (D 0 0) (fun i s => s = nI (bsN (fhB D h) i)) (by
    intro n i s hi hs
    refine ⟨_, rfl, ?_⟩
    subst hs
    show f_X7_freeIn_h4_b _ _ _ _ _ _ _ = _
    unfold f_X7_freeIn_h4_b
    have e : bsN (fhB D h) (i + 1) = if fhB D h i then bsN (fhB D h) i ||| 2 ^ i else bsN (fhB D h) i := rfl
    rw [e]
    rw [e8_isFree hW hT hi hh]
    by_cases q : fhB D h i
    · simp (disch := omega) only [pn_lt, pn_ltM, pl_ofN, ↓pl_m1, pl_lit, fa_litL, pn_bs, ck_n, ckh_n, ck_t, ckh_t, nI_add, nI_clamp, nI_ltI, nI_leI, nI_eq, m1_eq, m1_eq2, m1_lt, m1_le, m1_lt2, m1_le2, m1_m1, nI_m1, nI_subn, gb_n, Nat.add_zero, Nat.zero_add, Nat.zero_or, Nat.or_zero, nle_f, nle_t, nlt_f, nlt_t, neq_f, neq_t, Bool.false_eq_true, eq_self, if_true, if_false, ite_true, ite_false, and_true, true_and, and_false, false_and, decide_true, decide_false, Bool.and_true, Bool.true_and, Bool.and_false, Bool.false_and, Bool.or_false, Bool.false_or, Bool.or_true, Bool.true_or, Bool.not_true, Bool.not_false, not_true_eq_false, not_false_eq_true, q, hT.1, nI_shl', pl_or]
    · simp (disch := omega) only [pn_lt, pn_ltM, pl_ofN, ↓pl_m1, pl_lit, fa_litL, pn_bs, ck_n, ckh_n, ck_t, ckh_t, nI_add, nI_clamp, nI_ltI, nI_leI, nI_eq, m1_eq, m1_eq2, m1_lt, m1_le, m1_lt2, m1_le2, m1_m1, nI_m1, nI_subn, gb_n, Nat.add_zero, Nat.zero_add, Nat.zero_or, Nat.or_zero, nle_f, nle_t, nlt_f, nlt_t, neq_f, neq_t, Bool.false_eq_true, eq_self, if_true, if_false, ite_true, ite_false, and_true, true_and, and_false, false_and, decide_true, decide_false, Bool.and_true, Bool.true_and, Bool.and_false, Bool.false_and, Bool.or_false, Bool.false_or, Bool.or_true, Bool.true_or, Bool.not_true, Bool.not_false, not_true_eq_false, not_false_eq_true, q, hT.1]) (D 0 0) 0 (nI 0) F (by omega) (by omega) rfl
  unfold f_X7_freeIn
  refine h2.trans ?_
  obtain ⟨n', e⟩ : ∃ n', F - D 0 0 = n' + 1 := ⟨F - D 0 0 - 1, by omega⟩
  rw [e]
  show f_X7_freeIn_h4_b _ _ _ _ _ _ _ = _
  unfold f_X7_freeIn_h4_b
  simp (disch := omega) only [pn_lt, pn_ltM, pl_ofN, ↓pl_m1, pl_lit, fa_litL, pn_bs, ck_n, ckh_n, ck_t, ckh_t, nI_add, nI_clamp, nI_ltI, nI_leI, nI_eq, m1_eq, m1_eq2, m1_lt, m1_le, m1_lt2, m1_le2, m1_m1, nI_m1, nI_subn, gb_n, Nat.add_zero, Nat.zero_add, Nat.zero_or, Nat.or_zero, nle_f, nle_t, nlt_f, nlt_t, neq_f, neq_t, Bool.false_eq_true, eq_self, if_true, if_false, ite_true, ite_false, and_true, true_and, and_false, false_and, decide_true, decide_false, Bool.and_true, Bool.true_and, Bool.and_false, Bool.false_and, Bool.or_false, Bool.false_or, Bool.or_true, Bool.true_or, Bool.not_true, Bool.not_false, not_true_eq_false, not_false_eq_true, h1, hT.1]
theorem e8_ownedBy {F l : Nat} (hF : 4000 ≤ F) (hW : qWF D) (hT : qTW D M) (hl : l ≤ 3) : f_X7_ownedBy F 3 (nI l) M = some (nI (bsN (fun p => decide (D 2 p = l)) (D 0 0))) := by
  have hn := hW.1.1
  have r1 : rf 3 1 = 5 := rfl
  obtain ⟨s, h1, h2⟩ := up_inv (fun n i (s : Int32) => f_X7_ownedBy_h4 F 3 (nI l) M n s (nI i)) (D 0 0) (fun i s => s = nI (bsN (fun p => decide (D 2 p = l)) i)) (by
    intro n i s hi hs
    refine ⟨_, rfl, ?_⟩
    subst hs
    show f_X7_ownedBy_h4_b _ _ _ _ _ _ _ = _
    unfold f_X7_ownedBy_h4_b
    have e : bsN (fun p => decide (D 2 p = l)) (i + 1) = if decide (D 2 i = l) then bsN (fun p => decide (D 2 p = l)) i ||| 2 ^ i else bsN (fun p => decide (D 2 p = l)) i := rfl
    rw [e]
    obtain ⟨c1, c2, c3, c4, c5⟩ := hW.1.2.2.2.1 i hi
    obtain ⟨t1, t2, t3, t4, t5, t6, t7, t8, t9, t10⟩ := hT.2.2.2.2.2.1 i hi
    by_cases q : D 2 i = l
    · simp (disch := omega) only [pn_lt, pn_ltM, pl_ofN, ↓pl_m1, pl_lit, fa_litL, pn_bs, ck_n, ckh_n, ck_t, ckh_t, nI_add, nI_clamp, nI_ltI, nI_leI, nI_eq, m1_eq, m1_eq2, m1_lt, m1_le, m1_lt2, m1_le2, m1_m1, nI_m1, nI_subn, gb_n, Nat.add_zero, Nat.zero_add, Nat.zero_or, Nat.or_zero, nle_f, nle_t, nlt_f, nlt_t, neq_f, neq_t, Bool.false_eq_true, eq_self, if_true, if_false, ite_true, ite_false, and_true, true_and, and_false, false_and, decide_true, decide_false, Bool.and_true, Bool.true_and, Bool.and_false, Bool.false_and, Bool.or_false, Bool.false_or, Bool.or_true, Bool.true_or, Bool.not_true, Bool.not_false, not_true_eq_false, not_false_eq_true, q, hT.1, nI_shl', pl_or, r1, t2]
    · simp (disch := omega) only [pn_lt, pn_ltM, pl_ofN, ↓pl_m1, pl_lit, fa_litL, pn_bs, ck_n, ckh_n, ck_t, ckh_t, nI_add, nI_clamp, nI_ltI, nI_leI, nI_eq, m1_eq, m1_eq2, m1_lt, m1_le, m1_lt2, m1_le2, m1_m1, nI_m1, nI_subn, gb_n, Nat.add_zero, Nat.zero_add, Nat.zero_or, Nat.or_zero, nle_f, nle_t, nlt_f, nlt_t, neq_f, neq_t, Bool.false_eq_true, eq_self, if_true, if_false, ite_true, ite_false, and_true, true_and, and_false, false_and, decide_true, decide_false, Bool.and_true, Bool.true_and, Bool.and_false, Bool.false_and, Bool.or_false, Bool.false_or, Bool.or_true, Bool.true_or, Bool.not_true, Bool.not_false, not_true_eq_false, not_false_eq_true, hT.1, r1, t2]) (D 0 0) 0 (nI 0) F (by omega) (by omega) rfl
  unfold f_X7_ownedBy
  refine h2.trans ?_
  obtain ⟨n', e⟩ : ∃ n', F - D 0 0 = n' + 1 := ⟨F - D 0 0 - 1, by omega⟩
  rw [e]
  show f_X7_ownedBy_h4_b _ _ _ _ _ _ _ = _
  unfold f_X7_ownedBy_h4_b
  simp (disch := omega) only [pn_lt, pn_ltM, pl_ofN, ↓pl_m1, pl_lit, fa_litL, pn_bs, ck_n, ckh_n, ck_t, ckh_t, nI_add, nI_clamp, nI_ltI, nI_leI, nI_eq, m1_eq, m1_eq2, m1_lt, m1_le, m1_lt2, m1_le2, m1_m1, nI_m1, nI_subn, gb_n, Nat.add_zero, Nat.zero_add, Nat.zero_or, Nat.or_zero, nle_f, nle_t, nlt_f, nlt_t, neq_f, neq_t, Bool.false_eq_true, eq_self, if_true, if_false, ite_true, ite_false, and_true, true_and, and_false, false_and, decide_true, decide_false, Bool.and_true, Bool.true_and, Bool.and_false, Bool.false_and, Bool.or_false, Bool.false_or, Bool.or_true, Bool.true_or, Bool.not_true, Bool.not_false, not_true_eq_false, not_false_eq_true, h1, hT.1]
/-- the three of a look in a row -/
def w3 (D : Nat → Nat → Nat) (f : Nat → Nat) (i : Nat) : Nat := f (D 17 i) + f (D 18 i) + f (D 19 i)
theorem qmk_lt (hW : qWF D) {i : Nat} (hi : i < D 0 9) : qmk D i < 2 ^ D 0 0 := by
  obtain ⟨a1, a2, a3, -⟩ := hW.2.1.2 i hi
  unfold qmk
  exact Nat.or_lt_two_pow (Nat.or_lt_two_pow (Nat.pow_lt_pow_right (by omega) a1) (Nat.pow_lt_pow_right (by omega) a2)) (Nat.pow_lt_pow_right (by omega) a3)
theorem qmk_1024 (hW : qWF D) {i : Nat} (hi : i < D 0 9) : qmk D i < 1024 := Nat.lt_of_lt_of_le (qmk_lt hW hi) (p2_31 hW.1.1)
theorem qmk_bit (D : Nat → Nat → Nat) (i p : Nat) : (qmk D i).testBit p = (decide (D 17 i = p) || decide (D 18 i = p) || decide (D 19 i = p)) := by
  unfold qmk
  rw [Nat.testBit_or, Nat.testBit_or, Nat.testBit_two_pow, Nat.testBit_two_pow, Nat.testBit_two_pow]
theorem e2_partsOf (hW : qWF D) (hL : qLK D M) {i : Nat} (hi : i < D 0 9) : f_X2_partsOf (nI i) M = some (nI (qmk D i)) := by
  have h36 := hW.2.1.1
  have hn := hW.1.1
  obtain ⟨a1, a2, a3, -⟩ := hW.2.1.2 i hi
  obtain ⟨t1, t2, t3, t4⟩ := hL.2.2 i hi
  unfold f_X2_partsOf qmk
  simp (disch := omega) only [pn_lt, pn_ltM, pl_ofN, ↓pl_m1, pl_lit, fa_litL, pn_bs, ck_n, ckh_n, ck_t, ckh_t, nI_add, nI_clamp, nI_ltI, nI_leI, nI_eq, m1_eq, m1_eq2, m1_lt, m1_le, m1_lt2, m1_le2, m1_m1, nI_m1, nI_subn, gb_n, Nat.add_zero, Nat.zero_add, Nat.zero_or, Nat.or_zero, nle_f, nle_t, nlt_f, nlt_t, neq_f, neq_t, Bool.false_eq_true, eq_self, if_true, if_false, ite_true, ite_false, and_true, true_and, and_false, false_and, decide_true, decide_false, Bool.and_true, Bool.true_and, Bool.and_false, Bool.false_and, Bool.or_false, Bool.false_or, Bool.or_true, Bool.true_or, Bool.not_true, Bool.not_false, not_true_eq_false, not_false_eq_true, hL.1, t1, t2, t3, nI_shl', pl_or]
theorem e2_sumOf (hW : qWF D) (hL : qLK D M) {i o : Nat} (hi : i < D 0 9) {f : Nat → Nat} (hf : ∀ p, p < D 0 0 → M o p = nI (f p)) : f_X2_sumOf (nI i) o 10 M = some (nI (w3 D f i)) := by
  have h36 := hW.2.1.1
  have hn := hW.1.1
  obtain ⟨a1, a2, a3, -⟩ := hW.2.1.2 i hi
  obtain ⟨t1, t2, t3, t4⟩ := hL.2.2 i hi
  unfold f_X2_sumOf w3
  have f1 := hf _ a1
  have f2 := hf _ a2
  have f3 := hf _ a3
  simp (disch := omega) only [pn_lt, pn_ltM, pl_ofN, ↓pl_m1, pl_lit, fa_litL, pn_bs, ck_n, ckh_n, ck_t, ckh_t, nI_add, nI_clamp, nI_ltI, nI_leI, nI_eq, m1_eq, m1_eq2, m1_lt, m1_le, m1_lt2, m1_le2, m1_m1, nI_m1, nI_subn, gb_n, Nat.add_zero, Nat.zero_add, Nat.zero_or, Nat.or_zero, nle_f, nle_t, nlt_f, nlt_t, neq_f, neq_t, Bool.false_eq_true, eq_self, if_true, if_false, ite_true, ite_false, and_true, true_and, and_false, false_and, decide_true, decide_false, Bool.and_true, Bool.true_and, Bool.and_false, Bool.false_and, Bool.or_false, Bool.false_or, Bool.or_true, Bool.true_or, Bool.not_true, Bool.not_false, not_true_eq_false, not_false_eq_true, hL.1, t1, t2, t3, f1, f2, f3]
theorem fb_sm_one (f : Nat → Nat) (b : Nat) : ∀ n, b < n → fb_sm (fun p => if p = b then f p else 0) n = f b := by
  intro n
  induction n with
  | zero => intro h; omega
  | succ n ih =>
    intro h
    rw [fb_sm_succ]
    by_cases e : n = b
    · subst e
      rw [if_pos rfl, fb_sm_cong (g := fun _ => 0) (fun k hk => by rw [if_neg (by omega)]), fb_sm_const]
      omega
    · rw [if_neg e, ih (by omega), Nat.add_zero]
theorem sS_three {f : Nat → Nat} {b e m n a : Nat} (hb : b < n) (he : e < n) (hm : m < n) (h1 : b ≠ e) (h2 : b ≠ m) (h3 : e ≠ m) (ha : ∀ p, a.testBit p = (decide (b = p) || decide (e = p) || decide (m = p))) : sS f a n = f b + f e + f m := by
  unfold sS
  rw [← fb_sm_one f b n hb, ← fb_sm_one f e n he, ← fb_sm_one f m n hm, ← fb_sm_add, ← fb_sm_add]
  refine fb_sm_cong (fun k _ => ?_)
  rw [ha]
  by_cases e1 : k = b
  · subst e1
    simp [h1, h2]
  · by_cases e2 : k = e
    · subst e2
      simp [h1, h3, e1]
    · by_cases e3 : k = m
      · subst e3
        simp [e1, e2]
      · simp [e1, e2, e3, Ne.symm e1, Ne.symm e2, Ne.symm e3]
theorem lk_ne (hW : qWF D) {i : Nat} (hi : i < D 0 9) : D 17 i ≠ D 18 i ∧ D 17 i ≠ D 19 i ∧ D 18 i ≠ D 19 i := by
  obtain ⟨a1, a2, a3, a4, a5, a6⟩ := hW.2.1.2 i hi
  refine ⟨fun q => ?_, fun q => ?_, fun q => ?_⟩
  · rw [q] at a4; omega
  · rw [q] at a4; omega
  · rw [q] at a5; omega
theorem sS_qmk (hW : qWF D) {i : Nat} (hi : i < D 0 9) (f : Nat → Nat) : sS f (qmk D i) (D 0 0) = w3 D f i := by
  obtain ⟨a1, a2, a3, -⟩ := hW.2.1.2 i hi
  obtain ⟨b1, b2, b3⟩ := lk_ne hW hi
  exact sS_three a1 a2 a3 b1 b2 b3 (qmk_bit D i)
theorem e9_sumOf {F x a : Nat} (hF : 4000 ≤ F) (hW : qWF D) (hT : qTW D M) (ha : a < 1024) (hx : x ≤ 150) {f : Nat → Nat} (hf : ∀ p, p < D 0 0 → M 96 (x + p) = nI (f p)) : f_X9_sumOf F (nI x) (nI a) M = some (nI (sS f a (D 0 0))) := by
  have hn := hW.1.1
  have h108 := hT.2.2.2.1
  obtain ⟨s, h1, h2⟩ := up_inv (fun n i (s : Int32) => f_X9_sumOf_h5 F (nI x) (nI a) M n s (nI i)) (D 0 0) (fun i s => s = nI (sS f a i)) (by
    intro n i s hi hs
    refine ⟨_, rfl, ?_⟩
    subst hs
    show f_X9_sumOf_h5_b _ _ _ _ _ _ _ = _
    unfold f_X9_sumOf_h5_b
    rw [e9_has (by omega) (by omega)]
    have e : sS f a (i + 1) = sS f a i + (if a.testBit i then f i else 0) := rfl
    rw [e]
    have hfi := hf i hi
    by_cases q : a.testBit i
    · simp (disch := omega) only [pn_lt, pn_ltM, pl_ofN, ↓pl_m1, pl_lit, fa_litL, pn_bs, ck_n, ckh_n, ck_t, ckh_t, nI_add, nI_clamp, nI_ltI, nI_leI, nI_eq, m1_eq, m1_eq2, m1_lt, m1_le, m1_lt2, m1_le2, m1_m1, nI_m1, nI_subn, gb_n, Nat.add_zero, Nat.zero_add, Nat.zero_or, Nat.or_zero, nle_f, nle_t, nlt_f, nlt_t, neq_f, neq_t, Bool.false_eq_true, eq_self, if_true, if_false, ite_true, ite_false, and_true, true_and, and_false, false_and, decide_true, decide_false, Bool.and_true, Bool.true_and, Bool.and_false, Bool.false_and, Bool.or_false, Bool.false_or, Bool.or_true, Bool.true_or, Bool.not_true, Bool.not_false, not_true_eq_false, not_false_eq_true, q, h108, hfi]
    · simp (disch := omega) only [pn_lt, pn_ltM, pl_ofN, ↓pl_m1, pl_lit, fa_litL, pn_bs, ck_n, ckh_n, ck_t, ckh_t, nI_add, nI_clamp, nI_ltI, nI_leI, nI_eq, m1_eq, m1_eq2, m1_lt, m1_le, m1_lt2, m1_le2, m1_m1, nI_m1, nI_subn, gb_n, Nat.add_zero, Nat.zero_add, Nat.zero_or, Nat.or_zero, nle_f, nle_t, nlt_f, nlt_t, neq_f, neq_t, Bool.false_eq_true, eq_self, if_true, if_false, ite_true, ite_false, and_true, true_and, and_false, false_and, decide_true, decide_false, Bool.and_true, Bool.true_and, Bool.and_false, Bool.false_and, Bool.or_false, Bool.false_or, Bool.or_true, Bool.true_or, Bool.not_true, Bool.not_false, not_true_eq_false, not_false_eq_true, q, h108]) (D 0 0) 0 (nI 0) F (by omega) (by omega) rfl
  unfold f_X9_sumOf
  refine h2.trans ?_
  obtain ⟨n', e⟩ : ∃ n', F - D 0 0 = n' + 1 := ⟨F - D 0 0 - 1, by omega⟩
  rw [e]
  show f_X9_sumOf_h5_b _ _ _ _ _ _ _ = _
  unfold f_X9_sumOf_h5_b
  simp (disch := omega) only [pn_lt, pn_ltM, pl_ofN, ↓pl_m1, pl_lit, fa_litL, pn_bs, ck_n, ckh_n, ck_t, ckh_t, nI_add, nI_clamp, nI_ltI, nI_leI, nI_eq, m1_eq, m1_eq2, m1_lt, m1_le, m1_lt2, m1_le2, m1_m1, nI_m1, nI_subn, gb_n, Nat.add_zero, Nat.zero_add, Nat.zero_or, Nat.or_zero, nle_f, nle_t, nlt_f, nlt_t, neq_f, neq_t, Bool.false_eq_true, eq_self, if_true, if_false, ite_true, ite_false, and_true, true_and, and_false, false_and, decide_true, decide_false, Bool.and_true, Bool.true_and, Bool.and_false, Bool.false_and, Bool.or_false, Bool.false_or, Bool.or_true, Bool.true_or, Bool.not_true, Bool.not_false, not_true_eq_false, not_false_eq_true, h1, h108]
/-- all of the set a are free in the hour, and none of them is banned -/
def frB (D : Nat → Nat → Nat) (bn h a : Nat) : Nat → Bool
  | 0 => true
  | p + 1 => frB D bn h a p && (!a.testBit p || (fhB D h p && !bn.testBit p))
theorem e9_isFree {F a h bn : Nat} (hF : 4000 ≤ F) (hW : qWF D) (hT : qTW D M) (ha : a < 1024) (hh : h ≤ 11) (hb : M 95 22 = nI bn) (hbn : bn < 1024) : f_X9_isFree F (nI a) (nI h) M = some (nI (if frB D bn h a (D 0 0) then 1 else 0)) := by
  have hn := hW.1.1
  have h108 := hT.2.2.2.1
  obtain ⟨s, h1, h2⟩ := up_inv (fun n i (s : Int32) => f_X9_isFree_h5 F (nI a) (nI h) M n s (nI i)) (D 0 0) (fun i s => s = nI (if frB D bn h a i then 1 else 0)) (by
    intro n i s hi hs
    refine ⟨_, rfl, ?_⟩
    subst hs
    show f_X9_isFree_h5_b _ _ _ _ _ _ _ = _
    unfold f_X9_isFree_h5_b
    rw [e9_has (by omega) (by omega)]
    obtain ⟨c1, c2, c3, c4, c5⟩ := hW.1.2.2.2.1 i hi
    obtain ⟨t1, t2, t3, t4, t5, t6, t7, t8, t9, t10⟩ := hT.2.2.2.2.2.1 i hi
    have e : frB D bn h a (i + 1) = (frB D bn h a i && (!a.testBit i || (fhB D h i && !bn.testBit i))) := rfl
    rw [e]
    cases h3 : frB D bn h a i
    · simp (disch := omega) only [pn_lt, pn_ltM, pl_ofN, ↓pl_m1, pl_lit, fa_litL, pn_bs, ck_n, ckh_n, ck_t, ckh_t, nI_add, nI_clamp, nI_ltI, nI_leI, nI_eq, m1_eq, m1_eq2, m1_lt, m1_le, m1_lt2, m1_le2, m1_m1, nI_m1, nI_subn, gb_n, Nat.add_zero, Nat.zero_add, Nat.zero_or, Nat.or_zero, nle_f, nle_t, nlt_f, nlt_t, neq_f, neq_t, Bool.false_eq_true, eq_self, if_true, if_false, ite_true, ite_false, and_true, true_and, and_false, false_and, decide_true, decide_false, Bool.and_true, Bool.true_and, Bool.and_false, Bool.false_and, Bool.or_false, Bool.false_or, Bool.or_true, Bool.true_or, Bool.not_true, Bool.not_false, not_true_eq_false, not_false_eq_true, h108]
    · cases h4 : a.testBit i
      · simp (disch := omega) only [pn_lt, pn_ltM, pl_ofN, ↓pl_m1, pl_lit, fa_litL, pn_bs, ck_n, ckh_n, ck_t, ckh_t, nI_add, nI_clamp, nI_ltI, nI_leI, nI_eq, m1_eq, m1_eq2, m1_lt, m1_le, m1_lt2, m1_le2, m1_m1, nI_m1, nI_subn, gb_n, Nat.add_zero, Nat.zero_add, Nat.zero_or, Nat.or_zero, nle_f, nle_t, nlt_f, nlt_t, neq_f, neq_t, Bool.false_eq_true, eq_self, if_true, if_false, ite_true, ite_false, and_true, true_and, and_false, false_and, decide_true, decide_false, Bool.and_true, Bool.true_and, Bool.and_false, Bool.false_and, Bool.or_false, Bool.false_or, Bool.or_true, Bool.true_or, Bool.not_true, Bool.not_false, not_true_eq_false, not_false_eq_true, h108]
      · have e5 : (D 6 i ≤ h ∧ h ≤ D 7 i) ↔ fhB D h i = true := by
          unfold fhB
          rw [Bool.and_eq_true, decide_eq_true_iff, decide_eq_true_iff]
        cases h5 : fhB D h i
        · simp (disch := omega) only [pn_lt, pn_ltM, pl_ofN, ↓pl_m1, pl_lit, fa_litL, pn_bs, ck_n, ckh_n, ck_t, ckh_t, nI_add, nI_clamp, nI_ltI, nI_leI, nI_eq, m1_eq, m1_eq2, m1_lt, m1_le, m1_lt2, m1_le2, m1_m1, nI_m1, nI_subn, gb_n, Nat.add_zero, Nat.zero_add, Nat.zero_or, Nat.or_zero, nle_f, nle_t, nlt_f, nlt_t, neq_f, neq_t, Bool.false_eq_true, eq_self, if_true, if_false, ite_true, ite_false, and_true, true_and, and_false, false_and, decide_true, decide_false, Bool.and_true, Bool.true_and, Bool.and_false, Bool.false_and, Bool.or_false, Bool.false_or, Bool.or_true, Bool.true_or, Bool.not_true, Bool.not_false, not_true_eq_false, not_false_eq_true, h108, e9_in, t8, t9, e5, h5]
        · cases h6 : bn.testBit i
          · simp (disch := omega) only [pn_lt, pn_ltM, pl_ofN, ↓pl_m1, pl_lit, fa_litL, pn_bs, ck_n, ckh_n, ck_t, ckh_t, nI_add, nI_clamp, nI_ltI, nI_leI, nI_eq, m1_eq, m1_eq2, m1_lt, m1_le, m1_lt2, m1_le2, m1_m1, nI_m1, nI_subn, gb_n, Nat.add_zero, Nat.zero_add, Nat.zero_or, Nat.or_zero, nle_f, nle_t, nlt_f, nlt_t, neq_f, neq_t, Bool.false_eq_true, eq_self, if_true, if_false, ite_true, ite_false, and_true, true_and, and_false, false_and, decide_true, decide_false, Bool.and_true, Bool.true_and, Bool.and_false, Bool.false_and, Bool.or_false, Bool.false_or, Bool.or_true, Bool.true_or, Bool.not_true, Bool.not_false, not_true_eq_false, not_false_eq_true, h108, e9_in, t8, t9, e5, h5, hb, e9_has, h6]
          · simp (disch := omega) only [pn_lt, pn_ltM, pl_ofN, ↓pl_m1, pl_lit, fa_litL, pn_bs, ck_n, ckh_n, ck_t, ckh_t, nI_add, nI_clamp, nI_ltI, nI_leI, nI_eq, m1_eq, m1_eq2, m1_lt, m1_le, m1_lt2, m1_le2, m1_m1, nI_m1, nI_subn, gb_n, Nat.add_zero, Nat.zero_add, Nat.zero_or, Nat.or_zero, nle_f, nle_t, nlt_f, nlt_t, neq_f, neq_t, Bool.false_eq_true, eq_self, if_true, if_false, ite_true, ite_false, and_true, true_and, and_false, false_and, decide_true, decide_false, Bool.and_true, Bool.true_and, Bool.and_false, Bool.false_and, Bool.or_false, Bool.false_or, Bool.or_true, Bool.true_or, Bool.not_true, Bool.not_false, not_true_eq_false, not_false_eq_true, h108, e9_in, t8, t9, e5, h5, hb, e9_has, h6]) (D 0 0) 0 (nI 1) F (by omega) (by omega) rfl
  unfold f_X9_isFree
  refine h2.trans ?_
  obtain ⟨n', e⟩ : ∃ n', F - D 0 0 = n' + 1 := ⟨F - D 0 0 - 1, by omega⟩
  rw [e]
  show f_X9_isFree_h5_b _ _ _ _ _ _ _ = _
  unfold f_X9_isFree_h5_b
  cases h3 : frB D bn h a (D 0 0)
  · rw [h3] at h1
    simp (disch := omega) only [pn_lt, pn_ltM, pl_ofN, ↓pl_m1, pl_lit, fa_litL, pn_bs, ck_n, ckh_n, ck_t, ckh_t, nI_add, nI_clamp, nI_ltI, nI_leI, nI_eq, m1_eq, m1_eq2, m1_lt, m1_le, m1_lt2, m1_le2, m1_m1, nI_m1, nI_subn, gb_n, Nat.add_zero, Nat.zero_add, Nat.zero_or, Nat.or_zero, nle_f, nle_t, nlt_f, nlt_t, neq_f, neq_t, Bool.false_eq_true, eq_self, if_true, if_false, ite_true, ite_false, and_true, true_and, and_false, false_and, decide_true, decide_false, Bool.and_true, Bool.true_and, Bool.and_false, Bool.false_and, Bool.or_false, Bool.false_or, Bool.or_true, Bool.true_or, Bool.not_true, Bool.not_false, not_true_eq_false, not_false_eq_true, h1, h108]
  · rw [h3] at h1
    simp (disch := omega) only [pn_lt, pn_ltM, pl_ofN, ↓pl_m1, pl_lit, fa_litL, pn_bs, ck_n, ckh_n, ck_t, ckh_t, nI_add, nI_clamp, nI_ltI, nI_leI, nI_eq, m1_eq, m1_eq2, m1_lt, m1_le, m1_lt2, m1_le2, m1_m1, nI_m1, nI_subn, gb_n, Nat.add_zero, Nat.zero_add, Nat.zero_or, Nat.or_zero, nle_f, nle_t, nlt_f, nlt_t, neq_f, neq_t, Bool.false_eq_true, eq_self, if_true, if_false, ite_true, ite_false, and_true, true_and, and_false, false_and, decide_true, decide_false, Bool.and_true, Bool.true_and, Bool.and_false, Bool.false_and, Bool.or_false, Bool.false_or, Bool.or_true, Bool.true_or, Bool.not_true, Bool.not_false, not_true_eq_false, not_false_eq_true, h1, h108]
end EV
