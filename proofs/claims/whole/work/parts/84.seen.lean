/-! seen, strange, judge -/
/-- the look i may be what was seen as sighting x -/
def mbB (D : Nat → Nat → Nat) (x i : Nat) : Bool := frB D 0 (D 13 x) (qmk D i) (D 0 0) && decide (w3 D (D 3) i = D 14 x)
/-- parts of the first looks that may be -/
def myS (D : Nat → Nat → Nat) (x : Nat) : Nat → Nat
  | 0 => 0
  | i + 1 => if mbB D x i then myS D x i ||| qmk D i else myS D x i
/-- parts that all of them have -/
def srS (D : Nat → Nat → Nat) (x : Nat) : Nat → Nat
  | 0 => 1023
  | i + 1 => if mbB D x i then srS D x i &&& qmk D i else srS D x i
theorem qmk_pos (D : Nat → Nat → Nat) (i : Nat) : qmk D i ≠ 0 := by
  intro q
  have := qmk_bit D i (D 17 i)
  rw [q, Nat.zero_testBit] at this
  simp at this
theorem or_ne0 {a b : Nat} (h : b ≠ 0) : a ||| b ≠ 0 := by
  intro q
  apply h
  apply Nat.eq_of_testBit_eq
  intro i
  have := congrArg (fun x => x.testBit i) q
  simp only [Nat.testBit_or, Nat.zero_testBit, Bool.or_eq_false_iff] at this
  rw [this.2, Nat.zero_testBit]
theorem myS_lt {D : Nat → Nat → Nat} (hW : qWF D) (x : Nat) : ∀ i, i ≤ D 0 9 → myS D x i < 1024
  | 0, _ => (show (0 : Nat) < 1024 by omega)
  | i + 1, h => by
    have h1 := myS_lt hW x i (by omega)
    unfold myS
    split
    · exact Nat.or_lt_two_pow (n := 10) h1 (qmk_1024 hW (by omega))
    · exact h1
theorem srS_lt {D : Nat → Nat → Nat} (x : Nat) : ∀ i, srS D x i < 1024
  | 0 => (show (1023 : Nat) < 1024 by omega)
  | i + 1 => by
    have h1 := srS_lt (D := D) x i
    unfold srS
    split
    · exact Nat.lt_of_le_of_lt Nat.and_le_left h1
    · exact h1
/-- nothing may be: then all are still sure; else what is sure may be -/
theorem sr_my {D : Nat → Nat → Nat} (x : Nat) : ∀ i, (myS D x i = 0 ∧ srS D x i = 1023) ∨ (myS D x i ≠ 0 ∧ ∀ p, (srS D x i).testBit p = true → (myS D x i).testBit p = true)
  | 0 => .inl ⟨rfl, rfl⟩
  | i + 1 => by
    have ih := sr_my (D := D) x i
    unfold myS srS
    cases h : mbB D x i
    · simp only [Bool.false_eq_true, if_false]
      exact ih
    · simp only [if_true]
      refine .inr ⟨or_ne0 (qmk_pos D i), fun p hp => ?_⟩
      rw [Nat.testBit_and, Bool.and_eq_true] at hp
      rw [Nat.testBit_or, hp.2, Bool.or_true]
theorem m1_and {a : Nat} (h : a < 1024) : m1 &&& nI a = nI (1023 &&& a) := by
  have e : 1023 &&& a = a := by
    rw [Nat.and_comm]
    exact (Nat.and_two_pow_sub_one_eq_mod a 10).trans (Nat.mod_eq_of_lt h)
  rw [e]
  apply b_ext
  intro i hi
  rw [b_and, show m1 = (-1 : Int32) from rfl, b_m1 i hi, Bool.true_and]
section EV
variable {D : Nat → Nat → Nat} {M : gM}
theorem e4_mayBe (hW : qWF D) (hT : qTW D M) (hL : qLK D M) (hS : qSV (D 0 0) D M 26 0) (hG : qSG D M) {i x : Nat} (hi : i < D 0 9) (hx : x < D 0 7) : f_X4_mayBe (nI i) (nI x) (nI (bsN (fhB D (D 13 x)) (D 0 0))) M = some (nI (if mbB D x i then 1 else 0)) := by
  have hn := hW.1.1
  have h36 := hW.2.1.1
  have h20 := hW.2.2.1.2.1
  obtain ⟨c1, c2⟩ := hW.2.2.1.2.2.2.2.1 x hx
  obtain ⟨g1, g2, g3, g4⟩ := hG.2.2 x hx
  have hk := qmk_lt hW hi
  have hk2 := qmk_1024 hW hi
  have e0 := e2_widthOf hW hL hS hi
  have hwd := wd_le hW hi
  have e1 := e2_partsOf hW hL hi
  have ea : andn (qmk D i) (bsN (fhB D (D 13 x)) (D 0 0)) < 1024 := andn_1024 hk2
  have hf := free_iff (D := D) (bn := 0) (h := D 13 x) hk
  rw [andn_0] at hf
  unfold f_X4_mayBe f_X2_widthOf mbB
  by_cases h1 : frB D 0 (D 13 x) (qmk D i) (D 0 0)
  · have h1' := hf.mpr h1
    by_cases h2 : w3 D (D 3) i = D 14 x
    · simp (disch := omega) only [pn_lt, pn_ltM, pl_ofN, ↓pl_m1, pl_lit, fa_litL, pn_bs, ck_n, ckh_n, ck_t, ckh_t, nI_add, nI_clamp, nI_ltI, nI_leI, nI_eq, m1_eq, m1_eq2, m1_lt, m1_le, m1_lt2, m1_le2, m1_m1, nI_m1, nI_subn, gb_n, Nat.add_zero, Nat.zero_add, Nat.zero_or, Nat.or_zero, nle_f, nle_t, nlt_f, nlt_t, neq_f, neq_t, Bool.false_eq_true, eq_self, if_true, if_false, ite_true, ite_false, and_true, true_and, and_false, false_and, decide_true, decide_false, Bool.and_true, Bool.true_and, Bool.and_false, Bool.false_and, Bool.or_false, Bool.false_or, Bool.or_true, Bool.true_or, Bool.not_true, Bool.not_false, not_true_eq_false, not_false_eq_true, e1, nI_andn', h1', e0, g2, h1, h2]
    · simp (disch := omega) only [pn_lt, pn_ltM, pl_ofN, ↓pl_m1, pl_lit, fa_litL, pn_bs, ck_n, ckh_n, ck_t, ckh_t, nI_add, nI_clamp, nI_ltI, nI_leI, nI_eq, m1_eq, m1_eq2, m1_lt, m1_le, m1_lt2, m1_le2, m1_m1, nI_m1, nI_subn, gb_n, Nat.add_zero, Nat.zero_add, Nat.zero_or, Nat.or_zero, nle_f, nle_t, nlt_f, nlt_t, neq_f, neq_t, Bool.false_eq_true, eq_self, if_true, if_false, ite_true, ite_false, and_true, true_and, and_false, false_and, decide_true, decide_false, Bool.and_true, Bool.true_and, Bool.and_false, Bool.false_and, Bool.or_false, Bool.false_or, Bool.or_true, Bool.true_or, Bool.not_true, Bool.not_false, not_true_eq_false, not_false_eq_true, e1, nI_andn', h1', e0, g2, h1]
  · have h1' := mt hf.mp h1
    simp (disch := omega) only [pn_lt, pn_ltM, pl_ofN, ↓pl_m1, pl_lit, fa_litL, pn_bs, ck_n, ckh_n, ck_t, ckh_t, nI_add, nI_clamp, nI_ltI, nI_leI, nI_eq, m1_eq, m1_eq2, m1_lt, m1_le, m1_lt2, m1_le2, m1_m1, nI_m1, nI_subn, gb_n, Nat.add_zero, Nat.zero_add, Nat.zero_or, Nat.or_zero, nle_f, nle_t, nlt_f, nlt_t, neq_f, neq_t, Bool.false_eq_true, eq_self, if_true, if_false, ite_true, ite_false, and_true, true_and, and_false, false_and, decide_true, decide_false, Bool.and_true, Bool.true_and, Bool.and_false, Bool.false_and, Bool.or_false, Bool.false_or, Bool.or_true, Bool.true_or, Bool.not_true, Bool.not_false, not_true_eq_false, not_false_eq_true, e1, nI_andn', h1', h1]
theorem e4_mayBeWorn {F x : Nat} (hF : 4000 ≤ F) (hW : qWF D) (hT : qTW D M) (hL : qLK D M) (hS : qSV (D 0 0) D M 26 0) (hG : qSG D M) (hx : x < D 0 7) : f_X4_mayBeWorn F (nI x) M = some (nI (myS D x (D 0 9))) := by
  have hn := hW.1.1
  have h36 := hW.2.1.1
  have h20 := hW.2.2.1.2.1
  obtain ⟨c1, c2⟩ := hW.2.2.1.2.2.2.2.1 x hx
  obtain ⟨g1, g2, g3, g4⟩ := hG.2.2 x hx
  have hfr := e8_freeIn (h := D 13 x) hF hW hT c1
  obtain ⟨y, h1, h2⟩ := up_inv (fun n i (y : Int32) => f_X4_mayBeWorn_h19 F (nI x) M n (nI (bsN (fhB D (D 13 x)) (D 0 0))) y (nI i)) (D 0 9) (fun i y => y = nI (myS D x i)) (by
    intro n i y hi hy
    refine ⟨_, rfl, ?_⟩
    subst hy
    show f_X4_mayBeWorn_h19_b F (nI x) M _ _ _ _ = _
    unfold f_X4_mayBeWorn_h19_b
    have e1 := e4_mayBe hW hT hL hS hG hi hx
    have e2 := e2_partsOf hW hL hi
    have e3 : myS D x (i + 1) = if mbB D x i then myS D x i ||| qmk D i else myS D x i := rfl
    rw [e3]
    cases h3 : mbB D x i
    · simp (disch := omega) only [pn_lt, pn_ltM, pl_ofN, ↓pl_m1, pl_lit, fa_litL, pn_bs, ck_n, ckh_n, ck_t, ckh_t, nI_add, nI_clamp, nI_ltI, nI_leI, nI_eq, m1_eq, m1_eq2, m1_lt, m1_le, m1_lt2, m1_le2, m1_m1, nI_m1, nI_subn, gb_n, Nat.add_zero, Nat.zero_add, Nat.zero_or, Nat.or_zero, nle_f, nle_t, nlt_f, nlt_t, neq_f, neq_t, Bool.false_eq_true, eq_self, if_true, if_false, ite_true, ite_false, and_true, true_and, and_false, false_and, decide_true, decide_false, Bool.and_true, Bool.true_and, Bool.and_false, Bool.false_and, Bool.or_false, Bool.false_or, Bool.or_true, Bool.true_or, Bool.not_true, Bool.not_false, not_true_eq_false, not_false_eq_true, hL.1, e1, h3]
    · simp (disch := omega) only [pn_lt, pn_ltM, pl_ofN, ↓pl_m1, pl_lit, fa_litL, pn_bs, ck_n, ckh_n, ck_t, ckh_t, nI_add, nI_clamp, nI_ltI, nI_leI, nI_eq, m1_eq, m1_eq2, m1_lt, m1_le, m1_lt2, m1_le2, m1_m1, nI_m1, nI_subn, gb_n, Nat.add_zero, Nat.zero_add, Nat.zero_or, Nat.or_zero, nle_f, nle_t, nlt_f, nlt_t, neq_f, neq_t, Bool.false_eq_true, eq_self, if_true, if_false, ite_true, ite_false, and_true, true_and, and_false, false_and, decide_true, decide_false, Bool.and_true, Bool.true_and, Bool.and_false, Bool.false_and, Bool.or_false, Bool.false_or, Bool.or_true, Bool.true_or, Bool.not_true, Bool.not_false, not_true_eq_false, not_false_eq_true, hL.1, e1, h3, e2, pl_or]) (D 0 9) 0 (nI 0) F (by omega) (by omega) rfl
  unfold f_X4_mayBeWorn
  rw [ck_n _ (by omega) (by omega), nI_clamp (by omega), g1, hfr, Option.bind_some]
  refine h2.trans ?_
  obtain ⟨n', e⟩ : ∃ n', F - D 0 9 = n' + 1 := ⟨F - D 0 9 - 1, by omega⟩
  rw [e]
  show f_X4_mayBeWorn_h19_b F (nI x) M _ _ _ _ = _
  unfold f_X4_mayBeWorn_h19_b
  simp (disch := omega) only [pn_lt, pn_ltM, pl_ofN, ↓pl_m1, pl_lit, fa_litL, pn_bs, ck_n, ckh_n, ck_t, ckh_t, nI_add, nI_clamp, nI_ltI, nI_leI, nI_eq, m1_eq, m1_eq2, m1_lt, m1_le, m1_lt2, m1_le2, m1_m1, nI_m1, nI_subn, gb_n, Nat.add_zero, Nat.zero_add, Nat.zero_or, Nat.or_zero, nle_f, nle_t, nlt_f, nlt_t, neq_f, neq_t, Bool.false_eq_true, eq_self, if_true, if_false, ite_true, ite_false, and_true, true_and, and_false, false_and, decide_true, decide_false, Bool.and_true, Bool.true_and, Bool.and_false, Bool.false_and, Bool.or_false, Bool.false_or, Bool.or_true, Bool.true_or, Bool.not_true, Bool.not_false, not_true_eq_false, not_false_eq_true, h1, hL.1]
theorem e4_surelyWorn {F x : Nat} (hF : 4000 ≤ F) (hW : qWF D) (hT : qTW D M) (hL : qLK D M) (hS : qSV (D 0 0) D M 26 0) (hG : qSG D M) (hx : x < D 0 7) : f_X4_surelyWorn F (nI x) M = some (nI (myS D x (D 0 9) &&& srS D x (D 0 9))) := by
  have hn := hW.1.1
  have h36 := hW.2.1.1
  have h20 := hW.2.2.1.2.1
  obtain ⟨c1, c2⟩ := hW.2.2.1.2.2.2.2.1 x hx
  obtain ⟨g1, g2, g3, g4⟩ := hG.2.2 x hx
  have hfr := e8_freeIn (h := D 13 x) hF hW hT c1
  have hmy := e4_mayBeWorn hF hW hT hL hS hG hx
  have e1023 : myS D x (D 0 9) &&& 1023 = myS D x (D 0 9) := (Nat.and_two_pow_sub_one_eq_mod _ 10).trans (Nat.mod_eq_of_lt (myS_lt hW x _ (Nat.le_refl _)))
  obtain ⟨y, h1, h2⟩ := up_inv (fun n i (y : Int32) => f_X4_surelyWorn_h23 F (nI x) M n (nI (bsN (fhB D (D 13 x)) (D 0 0))) y (nI i)) (D 0 9) (fun i y => y = nI (myS D x (D 0 9) &&& srS D x i)) (by
    intro n i y hi hy
    refine ⟨_, rfl, ?_⟩
    subst hy
    show f_X4_surelyWorn_h23_b F (nI x) M _ _ _ _ = _
    unfold f_X4_surelyWorn_h23_b
    have e1 := e4_mayBe hW hT hL hS hG hi hx
    have e2 := e2_partsOf hW hL hi
    have e3 : srS D x (i + 1) = if mbB D x i then srS D x i &&& qmk D i else srS D x i := rfl
    rw [e3]
    cases h3 : mbB D x i
    · simp (disch := omega) only [pn_lt, pn_ltM, pl_ofN, ↓pl_m1, pl_lit, fa_litL, pn_bs, ck_n, ckh_n, ck_t, ckh_t, nI_add, nI_clamp, nI_ltI, nI_leI, nI_eq, m1_eq, m1_eq2, m1_lt, m1_le, m1_lt2, m1_le2, m1_m1, nI_m1, nI_subn, gb_n, Nat.add_zero, Nat.zero_add, Nat.zero_or, Nat.or_zero, nle_f, nle_t, nlt_f, nlt_t, neq_f, neq_t, Bool.false_eq_true, eq_self, if_true, if_false, ite_true, ite_false, and_true, true_and, and_false, false_and, decide_true, decide_false, Bool.and_true, Bool.true_and, Bool.and_false, Bool.false_and, Bool.or_false, Bool.false_or, Bool.or_true, Bool.true_or, Bool.not_true, Bool.not_false, not_true_eq_false, not_false_eq_true, hL.1, e1, h3]
    · simp (disch := omega) only [pn_lt, pn_ltM, pl_ofN, ↓pl_m1, pl_lit, fa_litL, pn_bs, ck_n, ckh_n, ck_t, ckh_t, nI_add, nI_clamp, nI_ltI, nI_leI, nI_eq, m1_eq, m1_eq2, m1_lt, m1_le, m1_lt2, m1_le2, m1_m1, nI_m1, nI_subn, gb_n, Nat.add_zero, Nat.zero_add, Nat.zero_or, Nat.or_zero, nle_f, nle_t, nlt_f, nlt_t, neq_f, neq_t, Bool.false_eq_true, eq_self, if_true, if_false, ite_true, ite_false, and_true, true_and, and_false, false_and, decide_true, decide_false, Bool.and_true, Bool.true_and, Bool.and_false, Bool.false_and, Bool.or_false, Bool.false_or, Bool.or_true, Bool.true_or, Bool.not_true, Bool.not_false, not_true_eq_false, not_false_eq_true, hL.1, e1, h3, e2, pl_and, Nat.and_assoc]) (D 0 9) 0 (nI (myS D x (D 0 9))) F (by omega) (by omega) (congrArg nI e1023.symm)
  unfold f_X4_surelyWorn
  rw [ck_n _ (by omega) (by omega), nI_clamp (by omega), g1, hfr, Option.bind_some, hmy, Option.bind_some]
  refine h2.trans ?_
  obtain ⟨n', e⟩ : ∃ n', F - D 0 9 = n' + 1 := ⟨F - D 0 9 - 1, by omega⟩
  rw [e]
  show f_X4_surelyWorn_h23_b F (nI x) M _ _ _ _ = _
  unfold f_X4_surelyWorn_h23_b
  simp (disch := omega) only [pn_lt, pn_ltM, pl_ofN, ↓pl_m1, pl_lit, fa_litL, pn_bs, ck_n, ckh_n, ck_t, ckh_t, nI_add, nI_clamp, nI_ltI, nI_leI, nI_eq, m1_eq, m1_eq2, m1_lt, m1_le, m1_lt2, m1_le2, m1_m1, nI_m1, nI_subn, gb_n, Nat.add_zero, Nat.zero_add, Nat.zero_or, Nat.or_zero, nle_f, nle_t, nlt_f, nlt_t, neq_f, neq_t, Bool.false_eq_true, eq_self, if_true, if_false, ite_true, ite_false, and_true, true_and, and_false, false_and, decide_true, decide_false, Bool.and_true, Bool.true_and, Bool.and_false, Bool.false_and, Bool.or_false, Bool.false_or, Bool.or_true, Bool.true_or, Bool.not_true, Bool.not_false, not_true_eq_false, not_false_eq_true, h1, hL.1]
theorem e9_seenBy {F x w : Nat} (hF : 4000 ≤ F) (hW : qWF D) (hT : qTW D M) (hL : qLK D M) (hS : qSV (D 0 0) D M 26 0) (hG : qSG D M) (hb : M 95 22 = 0) (hx : x < D 0 7) (hw : w ≤ 1) : f_X9_seenBy F (nI x) (nI w) M = some (nI (if w = 0 then myS D x (D 0 9) else myS D x (D 0 9) &&& srS D x (D 0 9))) := by
  have hn := hW.1.1
  have h36 := hW.2.1.1
  have h20 := hW.2.2.1.2.1
  obtain ⟨c1, c2⟩ := hW.2.2.1.2.2.2.2.1 x hx
  obtain ⟨g1, g2, g3, g4⟩ := hG.2.2 x hx
  obtain ⟨y, h1, h2⟩ := up_inv (fun n i (y : Int32 × Int32) => f_X9_seenBy_h8 F (nI x) (nI w) M n y.1 y.2 (nI i)) (D 0 9) (fun i y => y = (nI (myS D x i), if myS D x i = 0 then m1 else nI (srS D x i))) (by
    intro n i y hi hy
    refine ⟨_, rfl, ?_⟩
    subst hy
    show f_X9_seenBy_h8_b F (nI x) (nI w) M _ _ _ _ = _
    unfold f_X9_seenBy_h8_b
    have hk := qmk_1024 hW hi
    have hwd := wd_le hW hi
    have e1 := e9_widthOf hF hW hT hS hk
    rw [sS_qmk hW hi] at e1
    have e2 := e9_isFree (bn := 0) (h := D 13 x) hF hW hT hk c1 hb (by omega)
    have e3 := (hL.2.2 i hi).2.2.2
    have e4 : srS D x (i + 1) = if mbB D x i then srS D x i &&& qmk D i else srS D x i := rfl
    have e5 : myS D x (i + 1) = if mbB D x i then myS D x i ||| qmk D i else myS D x i := rfl
    rw [e4, e5]
    unfold mbB
    by_cases h3 : w3 D (D 3) i = D 14 x
    · cases h4 : frB D 0 (D 13 x) (qmk D i) (D 0 0)
      · simp (disch := omega) only [pn_lt, pn_ltM, pl_ofN, ↓pl_m1, pl_lit, fa_litL, pn_bs, ck_n, ckh_n, ck_t, ckh_t, nI_add, nI_clamp, nI_ltI, nI_leI, nI_eq, m1_eq, m1_eq2, m1_lt, m1_le, m1_lt2, m1_le2, m1_m1, nI_m1, nI_subn, gb_n, Nat.add_zero, Nat.zero_add, Nat.zero_or, Nat.or_zero, nle_f, nle_t, nlt_f, nlt_t, neq_f, neq_t, Bool.false_eq_true, eq_self, if_true, if_false, ite_true, ite_false, and_true, true_and, and_false, false_and, decide_true, decide_false, Bool.and_true, Bool.true_and, Bool.and_false, Bool.false_and, Bool.or_false, Bool.false_or, Bool.or_true, Bool.true_or, Bool.not_true, Bool.not_false, not_true_eq_false, not_false_eq_true, hL.2.1, e1, e2, e3, g3, g4, h3, h4]
      · have e6 : (myS D x i ||| qmk D i = 0) = False := eq_false (or_ne0 (qmk_pos D i))
        rcases sr_my (D := D) x i with ⟨h5, h6⟩ | ⟨h5, h6⟩
        · have e7 := m1_and hk
          simp (disch := omega) only [pn_lt, pn_ltM, pl_ofN, ↓pl_m1, pl_lit, fa_litL, pn_bs, ck_n, ckh_n, ck_t, ckh_t, nI_add, nI_clamp, nI_ltI, nI_leI, nI_eq, m1_eq, m1_eq2, m1_lt, m1_le, m1_lt2, m1_le2, m1_m1, nI_m1, nI_subn, gb_n, Nat.add_zero, Nat.zero_add, Nat.zero_or, Nat.or_zero, nle_f, nle_t, nlt_f, nlt_t, neq_f, neq_t, Bool.false_eq_true, eq_self, if_true, if_false, ite_true, ite_false, and_true, true_and, and_false, false_and, decide_true, decide_false, Bool.and_true, Bool.true_and, Bool.and_false, Bool.false_and, Bool.or_false, Bool.false_or, Bool.or_true, Bool.true_or, Bool.not_true, Bool.not_false, not_true_eq_false, not_false_eq_true, hL.2.1, e1, e2, e3, g3, g4, h3, h4, h5, h6, e7, pl_or, qmk_pos]
        · simp (disch := omega) only [pn_lt, pn_ltM, pl_ofN, ↓pl_m1, pl_lit, fa_litL, pn_bs, ck_n, ckh_n, ck_t, ckh_t, nI_add, nI_clamp, nI_ltI, nI_leI, nI_eq, m1_eq, m1_eq2, m1_lt, m1_le, m1_lt2, m1_le2, m1_m1, nI_m1, nI_subn, gb_n, Nat.add_zero, Nat.zero_add, Nat.zero_or, Nat.or_zero, nle_f, nle_t, nlt_f, nlt_t, neq_f, neq_t, Bool.false_eq_true, eq_self, if_true, if_false, ite_true, ite_false, and_true, true_and, and_false, false_and, decide_true, decide_false, Bool.and_true, Bool.true_and, Bool.and_false, Bool.false_and, Bool.or_false, Bool.false_or, Bool.or_true, Bool.true_or, Bool.not_true, Bool.not_false, not_true_eq_false, not_false_eq_true, hL.2.1, e1, e2, e3, g3, g4, h3, h4, h5, e6, pl_or, pl_and]
    · cases h4 : frB D 0 (D 13 x) (qmk D i) (D 0 0)
      · simp (disch := omega) only [pn_lt, pn_ltM, pl_ofN, ↓pl_m1, pl_lit, fa_litL, pn_bs, ck_n, ckh_n, ck_t, ckh_t, nI_add, nI_clamp, nI_ltI, nI_leI, nI_eq, m1_eq, m1_eq2, m1_lt, m1_le, m1_lt2, m1_le2, m1_m1, nI_m1, nI_subn, gb_n, Nat.add_zero, Nat.zero_add, Nat.zero_or, Nat.or_zero, nle_f, nle_t, nlt_f, nlt_t, neq_f, neq_t, Bool.false_eq_true, eq_self, if_true, if_false, ite_true, ite_false, and_true, true_and, and_false, false_and, decide_true, decide_false, Bool.and_true, Bool.true_and, Bool.and_false, Bool.false_and, Bool.or_false, Bool.false_or, Bool.or_true, Bool.true_or, Bool.not_true, Bool.not_false, not_true_eq_false, not_false_eq_true, hL.2.1, e1, e2, e3, g3, g4, h3]
      · simp (disch := omega) only [pn_lt, pn_ltM, pl_ofN, ↓pl_m1, pl_lit, fa_litL, pn_bs, ck_n, ckh_n, ck_t, ckh_t, nI_add, nI_clamp, nI_ltI, nI_leI, nI_eq, m1_eq, m1_eq2, m1_lt, m1_le, m1_lt2, m1_le2, m1_m1, nI_m1, nI_subn, gb_n, Nat.add_zero, Nat.zero_add, Nat.zero_or, Nat.or_zero, nle_f, nle_t, nlt_f, nlt_t, neq_f, neq_t, Bool.false_eq_true, eq_self, if_true, if_false, ite_true, ite_false, and_true, true_and, and_false, false_and, decide_true, decide_false, Bool.and_true, Bool.true_and, Bool.and_false, Bool.false_and, Bool.or_false, Bool.false_or, Bool.or_true, Bool.true_or, Bool.not_true, Bool.not_false, not_true_eq_false, not_false_eq_true, hL.2.1, e1, e2, e3, g3, g4, h3]) (D 0 9) 0 (nI 0, m1) F (by omega) (by omega) (by unfold myS; rw [if_pos rfl])
  unfold f_X9_seenBy
  refine h2.trans ?_
  obtain ⟨n', e⟩ : ∃ n', F - D 0 9 = n' + 1 := ⟨F - D 0 9 - 1, by omega⟩
  rw [e]
  show f_X9_seenBy_h8_b F (nI x) (nI w) M _ _ _ _ = _
  unfold f_X9_seenBy_h8_b
  have hmy := myS_lt hW x (D 0 9) (Nat.le_refl _)
  rcases sr_my (D := D) x (D 0 9) with ⟨h5, h6⟩ | ⟨h5, h6⟩
  · simp (disch := omega) only [pn_lt, pn_ltM, pl_ofN, ↓pl_m1, pl_lit, fa_litL, pn_bs, ck_n, ckh_n, ck_t, ckh_t, nI_add, nI_clamp, nI_ltI, nI_leI, nI_eq, m1_eq, m1_eq2, m1_lt, m1_le, m1_lt2, m1_le2, m1_m1, nI_m1, nI_subn, gb_n, Nat.add_zero, Nat.zero_add, Nat.zero_or, Nat.or_zero, nle_f, nle_t, nlt_f, nlt_t, neq_f, neq_t, Bool.false_eq_true, eq_self, if_true, if_false, ite_true, ite_false, and_true, true_and, and_false, false_and, decide_true, decide_false, Bool.and_true, Bool.true_and, Bool.and_false, Bool.false_and, Bool.or_false, Bool.false_or, Bool.or_true, Bool.true_or, Bool.not_true, Bool.not_false, not_true_eq_false, not_false_eq_true, h1, hL.2.1, h5, Nat.zero_and, ite_self]
  · by_cases h7 : w = 0
    · simp (disch := omega) only [pn_lt, pn_ltM, pl_ofN, ↓pl_m1, pl_lit, fa_litL, pn_bs, ck_n, ckh_n, ck_t, ckh_t, nI_add, nI_clamp, nI_ltI, nI_leI, nI_eq, m1_eq, m1_eq2, m1_lt, m1_le, m1_lt2, m1_le2, m1_m1, nI_m1, nI_subn, gb_n, Nat.add_zero, Nat.zero_add, Nat.zero_or, Nat.or_zero, nle_f, nle_t, nlt_f, nlt_t, neq_f, neq_t, Bool.false_eq_true, eq_self, if_true, if_false, ite_true, ite_false, and_true, true_and, and_false, false_and, decide_true, decide_false, Bool.and_true, Bool.true_and, Bool.and_false, Bool.false_and, Bool.or_false, Bool.false_or, Bool.or_true, Bool.true_or, Bool.not_true, Bool.not_false, not_true_eq_false, not_false_eq_true, h1, hL.2.1, h5, h7]
    · have e8 : myS D x (D 0 9) &&& srS D x (D 0 9) = srS D x (D 0 9) := by
        apply Nat.eq_of_testBit_eq
        intro p
        rw [Nat.testBit_and]
        cases h8 : (srS D x (D 0 9)).testBit p
        · rw [Bool.and_false]
        · rw [h6 p h8]; rfl
      simp (disch := omega) only [pn_lt, pn_ltM, pl_ofN, ↓pl_m1, pl_lit, fa_litL, pn_bs, ck_n, ckh_n, ck_t, ckh_t, nI_add, nI_clamp, nI_ltI, nI_leI, nI_eq, m1_eq, m1_eq2, m1_lt, m1_le, m1_lt2, m1_le2, m1_m1, nI_m1, nI_subn, gb_n, Nat.add_zero, Nat.zero_add, Nat.zero_or, Nat.or_zero, nle_f, nle_t, nlt_f, nlt_t, neq_f, neq_t, Bool.false_eq_true, eq_self, if_true, if_false, ite_true, ite_false, and_true, true_and, and_false, false_and, decide_true, decide_false, Bool.and_true, Bool.true_and, Bool.and_false, Bool.false_and, Bool.or_false, Bool.false_or, Bool.or_true, Bool.true_or, Bool.not_true, Bool.not_false, not_true_eq_false, not_false_eq_true, h1, hL.2.1, h5, h7, e8]
theorem q_seen {F : Nat} (hF : 4000 ≤ F) (a b : Int32) (h : qR M) : eqR (f_X8_seen F a b M) (f_X9_seen F a b M) := by
  obtain ⟨D, hW, hT, hS, hX, hL, hG, hB, hFI, hb⟩ := h
  have h20 := hW.2.2.1.2.1
  unfold f_X8_seen f_X9_seen
  rcases rg_le b 1 (by omega) with h0 | h0 | ⟨w, hw, rfl⟩
  · exact ⟨-nI 1000000002, by simp (disch := omega) only [pn_lt, pn_ltM, pl_ofN, ↓pl_m1, pl_lit, fa_litL, pn_bs, ck_n, ckh_n, ck_t, ckh_t, nI_add, nI_clamp, nI_ltI, nI_leI, nI_eq, m1_eq, m1_eq2, m1_lt, m1_le, m1_lt2, m1_le2, m1_m1, nI_m1, nI_subn, gb_n, Nat.add_zero, Nat.zero_add, Nat.zero_or, Nat.or_zero, nle_f, nle_t, nlt_f, nlt_t, neq_f, neq_t, Bool.false_eq_true, eq_self, if_true, if_false, ite_true, ite_false, and_true, true_and, and_false, false_and, decide_true, decide_false, Bool.and_true, Bool.true_and, Bool.and_false, Bool.false_and, Bool.or_false, Bool.false_or, Bool.or_true, Bool.true_or, Bool.not_true, Bool.not_false, not_true_eq_false, not_false_eq_true, i_lt h0], by simp (disch := omega) only [pn_lt, pn_ltM, pl_ofN, ↓pl_m1, pl_lit, fa_litL, pn_bs, ck_n, ckh_n, ck_t, ckh_t, nI_add, nI_clamp, nI_ltI, nI_leI, nI_eq, m1_eq, m1_eq2, m1_lt, m1_le, m1_lt2, m1_le2, m1_m1, nI_m1, nI_subn, gb_n, Nat.add_zero, Nat.zero_add, Nat.zero_or, Nat.or_zero, nle_f, nle_t, nlt_f, nlt_t, neq_f, neq_t, Bool.false_eq_true, eq_self, if_true, if_false, ite_true, ite_false, and_true, true_and, and_false, false_and, decide_true, decide_false, Bool.and_true, Bool.true_and, Bool.and_false, Bool.false_and, Bool.or_false, Bool.false_or, Bool.or_true, Bool.true_or, Bool.not_true, Bool.not_false, not_true_eq_false, not_false_eq_true, e9_inL, i_nle h0]⟩
  · exact ⟨-nI 1000000002, by simp (disch := omega) only [pn_lt, pn_ltM, pl_ofN, ↓pl_m1, pl_lit, fa_litL, pn_bs, ck_n, ckh_n, ck_t, ckh_t, nI_add, nI_clamp, nI_ltI, nI_leI, nI_eq, m1_eq, m1_eq2, m1_lt, m1_le, m1_lt2, m1_le2, m1_m1, nI_m1, nI_subn, gb_n, Nat.add_zero, Nat.zero_add, Nat.zero_or, Nat.or_zero, nle_f, nle_t, nlt_f, nlt_t, neq_f, neq_t, Bool.false_eq_true, eq_self, if_true, if_false, ite_true, ite_false, and_true, true_and, and_false, false_and, decide_true, decide_false, Bool.and_true, Bool.true_and, Bool.and_false, Bool.false_and, Bool.or_false, Bool.false_or, Bool.or_true, Bool.true_or, Bool.not_true, Bool.not_false, not_true_eq_false, not_false_eq_true, i_lt0 h0, i_nle h0], by simp (disch := omega) only [pn_lt, pn_ltM, pl_ofN, ↓pl_m1, pl_lit, fa_litL, pn_bs, ck_n, ckh_n, ck_t, ckh_t, nI_add, nI_clamp, nI_ltI, nI_leI, nI_eq, m1_eq, m1_eq2, m1_lt, m1_le, m1_lt2, m1_le2, m1_m1, nI_m1, nI_subn, gb_n, Nat.add_zero, Nat.zero_add, Nat.zero_or, Nat.or_zero, nle_f, nle_t, nlt_f, nlt_t, neq_f, neq_t, Bool.false_eq_true, eq_self, if_true, if_false, ite_true, ite_false, and_true, true_and, and_false, false_and, decide_true, decide_false, Bool.and_true, Bool.true_and, Bool.and_false, Bool.false_and, Bool.or_false, Bool.false_or, Bool.or_true, Bool.true_or, Bool.not_true, Bool.not_false, not_true_eq_false, not_false_eq_true, e9_inL, i_nle h0]⟩
  · have e9 : f_X9_in (nI w).toInt64 (0 : Int64) (1 : Int64) M = some (nI 1) := by
      simp (disch := omega) only [pn_lt, pn_ltM, pl_ofN, ↓pl_m1, pl_lit, fa_litL, pn_bs, ck_n, ckh_n, ck_t, ckh_t, nI_add, nI_clamp, nI_ltI, nI_leI, nI_eq, m1_eq, m1_eq2, m1_lt, m1_le, m1_lt2, m1_le2, m1_m1, nI_m1, nI_subn, gb_n, Nat.add_zero, Nat.zero_add, Nat.zero_or, Nat.or_zero, nle_f, nle_t, nlt_f, nlt_t, neq_f, neq_t, Bool.false_eq_true, eq_self, if_true, if_false, ite_true, ite_false, and_true, true_and, and_false, false_and, decide_true, decide_false, Bool.and_true, Bool.true_and, Bool.and_false, Bool.false_and, Bool.or_false, Bool.false_or, Bool.or_true, Bool.true_or, Bool.not_true, Bool.not_false, not_true_eq_false, not_false_eq_true, e9_inL]
    rw [e9, hG.1, hG.2.1]
    rcases e9_idx (k := D 0 7) (by omega) a M with ⟨i, hi, rfl, e1⟩ | ⟨h1, e1⟩
    · rw [e1]
      have e2 := e9_seenBy hF hW hT hL hS hG hb hi hw
      have e3 := e4_mayBeWorn hF hW hT hL hS hG hi
      have e4 := e4_surelyWorn hF hW hT hL hS hG hi
      by_cases h7 : w = 0
      · subst h7
        exact ⟨nI (myS D i (D 0 9)), by simp (disch := omega) only [pn_lt, pn_ltM, pl_ofN, ↓pl_m1, pl_lit, fa_litL, pn_bs, ck_n, ckh_n, ck_t, ckh_t, nI_add, nI_clamp, nI_ltI, nI_leI, nI_eq, m1_eq, m1_eq2, m1_lt, m1_le, m1_lt2, m1_le2, m1_m1, nI_m1, nI_subn, gb_n, Nat.add_zero, Nat.zero_add, Nat.zero_or, Nat.or_zero, nle_f, nle_t, nlt_f, nlt_t, neq_f, neq_t, Bool.false_eq_true, eq_self, if_true, if_false, ite_true, ite_false, and_true, true_and, and_false, false_and, decide_true, decide_false, Bool.and_true, Bool.true_and, Bool.and_false, Bool.false_and, Bool.or_false, Bool.false_or, Bool.or_true, Bool.true_or, Bool.not_true, Bool.not_false, not_true_eq_false, not_false_eq_true, e3], by simp (disch := omega) only [pn_lt, pn_ltM, pl_ofN, ↓pl_m1, pl_lit, fa_litL, pn_bs, ck_n, ckh_n, ck_t, ckh_t, nI_add, nI_clamp, nI_ltI, nI_leI, nI_eq, m1_eq, m1_eq2, m1_lt, m1_le, m1_lt2, m1_le2, m1_m1, nI_m1, nI_subn, gb_n, Nat.add_zero, Nat.zero_add, Nat.zero_or, Nat.or_zero, nle_f, nle_t, nlt_f, nlt_t, neq_f, neq_t, Bool.false_eq_true, eq_self, if_true, if_false, ite_true, ite_false, and_true, true_and, and_false, false_and, decide_true, decide_false, Bool.and_true, Bool.true_and, Bool.and_false, Bool.false_and, Bool.or_false, Bool.false_or, Bool.or_true, Bool.true_or, Bool.not_true, Bool.not_false, not_true_eq_false, not_false_eq_true, e2]⟩
      · exact ⟨nI (myS D i (D 0 9) &&& srS D i (D 0 9)), by simp (disch := omega) only [pn_lt, pn_ltM, pl_ofN, ↓pl_m1, pl_lit, fa_litL, pn_bs, ck_n, ckh_n, ck_t, ckh_t, nI_add, nI_clamp, nI_ltI, nI_leI, nI_eq, m1_eq, m1_eq2, m1_lt, m1_le, m1_lt2, m1_le2, m1_m1, nI_m1, nI_subn, gb_n, Nat.add_zero, Nat.zero_add, Nat.zero_or, Nat.or_zero, nle_f, nle_t, nlt_f, nlt_t, neq_f, neq_t, Bool.false_eq_true, eq_self, if_true, if_false, ite_true, ite_false, and_true, true_and, and_false, false_and, decide_true, decide_false, Bool.and_true, Bool.true_and, Bool.and_false, Bool.false_and, Bool.or_false, Bool.false_or, Bool.or_true, Bool.true_or, Bool.not_true, Bool.not_false, not_true_eq_false, not_false_eq_true, e4], by simp (disch := omega) only [pn_lt, pn_ltM, pl_ofN, ↓pl_m1, pl_lit, fa_litL, pn_bs, ck_n, ckh_n, ck_t, ckh_t, nI_add, nI_clamp, nI_ltI, nI_leI, nI_eq, m1_eq, m1_eq2, m1_lt, m1_le, m1_lt2, m1_le2, m1_m1, nI_m1, nI_subn, gb_n, Nat.add_zero, Nat.zero_add, Nat.zero_or, Nat.or_zero, nle_f, nle_t, nlt_f, nlt_t, neq_f, neq_t, Bool.false_eq_true, eq_self, if_true, if_false, ite_true, ite_false, and_true, true_and, and_false, false_and, decide_true, decide_false, Bool.and_true, Bool.true_and, Bool.and_false, Bool.false_and, Bool.or_false, Bool.false_or, Bool.or_true, Bool.true_or, Bool.not_true, Bool.not_false, not_true_eq_false, not_false_eq_true, e2]⟩
    · rw [e1]
      refine ⟨m1, ?_, by simp (disch := omega) only [pn_lt, pn_ltM, pl_ofN, ↓pl_m1, pl_lit, fa_litL, pn_bs, ck_n, ckh_n, ck_t, ckh_t, nI_add, nI_clamp, nI_ltI, nI_leI, nI_eq, m1_eq, m1_eq2, m1_lt, m1_le, m1_lt2, m1_le2, m1_m1, nI_m1, nI_subn, gb_n, Nat.add_zero, Nat.zero_add, Nat.zero_or, Nat.or_zero, nle_f, nle_t, nlt_f, nlt_t, neq_f, neq_t, Bool.false_eq_true, eq_self, if_true, if_false, ite_true, ite_false, and_true, true_and, and_false, false_and, decide_true, decide_false, Bool.and_true, Bool.true_and, Bool.and_false, Bool.false_and, Bool.or_false, Bool.false_or, Bool.or_true, Bool.true_or, Bool.not_true, Bool.not_false, not_true_eq_false, not_false_eq_true]⟩
      rcases h1 with h1 | h1
      · simp (disch := omega) only [pn_lt, pn_ltM, pl_ofN, ↓pl_m1, pl_lit, fa_litL, pn_bs, ck_n, ckh_n, ck_t, ckh_t, nI_add, nI_clamp, nI_ltI, nI_leI, nI_eq, m1_eq, m1_eq2, m1_lt, m1_le, m1_lt2, m1_le2, m1_m1, nI_m1, nI_subn, gb_n, Nat.add_zero, Nat.zero_add, Nat.zero_or, Nat.or_zero, nle_f, nle_t, nlt_f, nlt_t, neq_f, neq_t, Bool.false_eq_true, eq_self, if_true, if_false, ite_true, ite_false, and_true, true_and, and_false, false_and, decide_true, decide_false, Bool.and_true, Bool.true_and, Bool.and_false, Bool.false_and, Bool.or_false, Bool.false_or, Bool.or_true, Bool.true_or, Bool.not_true, Bool.not_false, not_true_eq_false, not_false_eq_true, i_lt h1]
      · have h2 : (a < nI 0) = False := eq_false (fun q => by
          rw [fa_le, nI_toInt (by omega)] at h1
          rw [fa_lt, nI_toInt (by omega)] at q
          omega)
        have h3 : (a < nI (D 0 7)) = False := eq_false (fun q => by
          rw [fa_le] at h1
          rw [fa_lt] at q
          omega)
        simp (disch := omega) only [pn_lt, pn_ltM, pl_ofN, ↓pl_m1, pl_lit, fa_litL, pn_bs, ck_n, ckh_n, ck_t, ckh_t, nI_add, nI_clamp, nI_ltI, nI_leI, nI_eq, m1_eq, m1_eq2, m1_lt, m1_le, m1_lt2, m1_le2, m1_m1, nI_m1, nI_subn, gb_n, Nat.add_zero, Nat.zero_add, Nat.zero_or, Nat.or_zero, nle_f, nle_t, nlt_f, nlt_t, neq_f, neq_t, Bool.false_eq_true, eq_self, if_true, if_false, ite_true, ite_false, and_true, true_and, and_false, false_and, decide_true, decide_false, Bool.and_true, Bool.true_and, Bool.and_false, Bool.false_and, Bool.or_false, Bool.false_or, Bool.or_true, Bool.true_or, Bool.not_true, Bool.not_false, not_true_eq_false, not_false_eq_true, h2, h3]
theorem q_strange {F : Nat} (hF : 4000 ≤ F) (h : qR M) : eqR (f_X8_strange F M) (f_X9_strange F M) := by
  obtain ⟨D, hW, hT, hS, hX, hL, hG, hB, hFI, hb⟩ := h
  have h20 := hW.2.2.1.2.1
  unfold f_X8_strange f_X4_firstStrange f_X9_strange
  have key : ∀ m i n, i + m = D 0 7 → m < n → ∃ r, f_X4_firstStrange_h2 F M n (nI i) = some r ∧ f_X9_strange_h2 F M n (nI i) = some r := by
    intro m
    induction m with
    | zero =>
      intro i n h1 h2
      obtain ⟨n', rfl⟩ : ∃ n', n = n' + 1 := ⟨n - 1, by omega⟩
      refine ⟨m1, ?_, ?_⟩
      · show f_X4_firstStrange_h2_b _ _ _ _ = _
        unfold f_X4_firstStrange_h2_b
        simp (disch := omega) only [pn_lt, pn_ltM, pl_ofN, ↓pl_m1, pl_lit, fa_litL, pn_bs, ck_n, ckh_n, ck_t, ckh_t, nI_add, nI_clamp, nI_ltI, nI_leI, nI_eq, m1_eq, m1_eq2, m1_lt, m1_le, m1_lt2, m1_le2, m1_m1, nI_m1, nI_subn, gb_n, Nat.add_zero, Nat.zero_add, Nat.zero_or, Nat.or_zero, nle_f, nle_t, nlt_f, nlt_t, neq_f, neq_t, Bool.false_eq_true, eq_self, if_true, if_false, ite_true, ite_false, and_true, true_and, and_false, false_and, decide_true, decide_false, Bool.and_true, Bool.true_and, Bool.and_false, Bool.false_and, Bool.or_false, Bool.false_or, Bool.or_true, Bool.true_or, Bool.not_true, Bool.not_false, not_true_eq_false, not_false_eq_true, hG.1]
      · show f_X9_strange_h2_b _ _ _ _ = _
        unfold f_X9_strange_h2_b
        simp (disch := omega) only [pn_lt, pn_ltM, pl_ofN, ↓pl_m1, pl_lit, fa_litL, pn_bs, ck_n, ckh_n, ck_t, ckh_t, nI_add, nI_clamp, nI_ltI, nI_leI, nI_eq, m1_eq, m1_eq2, m1_lt, m1_le, m1_lt2, m1_le2, m1_m1, nI_m1, nI_subn, gb_n, Nat.add_zero, Nat.zero_add, Nat.zero_or, Nat.or_zero, nle_f, nle_t, nlt_f, nlt_t, neq_f, neq_t, Bool.false_eq_true, eq_self, if_true, if_false, ite_true, ite_false, and_true, true_and, and_false, false_and, decide_true, decide_false, Bool.and_true, Bool.true_and, Bool.and_false, Bool.false_and, Bool.or_false, Bool.false_or, Bool.or_true, Bool.true_or, Bool.not_true, Bool.not_false, not_true_eq_false, not_false_eq_true, hG.2.1]
    | succ m ih =>
      intro i n h1 h2
      obtain ⟨n', rfl⟩ : ∃ n', n = n' + 1 := ⟨n - 1, by omega⟩
      obtain ⟨r, r1, r2⟩ := ih (i + 1) n' (by omega) (by omega)
      have e2 := e9_seenBy hF hW hT hL hS hG hb (x := i) (by omega) (w := 0) (by omega)
      have e3 := e4_mayBeWorn hF hW hT hL hS hG (x := i) (by omega)
      have hmy := myS_lt hW i (D 0 9) (Nat.le_refl _)
      by_cases h3 : myS D i (D 0 9) = 0
      · refine ⟨nI i, ?_, ?_⟩
        · show f_X4_firstStrange_h2_b _ _ _ _ = _
          unfold f_X4_firstStrange_h2_b
          simp (disch := omega) only [pn_lt, pn_ltM, pl_ofN, ↓pl_m1, pl_lit, fa_litL, pn_bs, ck_n, ckh_n, ck_t, ckh_t, nI_add, nI_clamp, nI_ltI, nI_leI, nI_eq, m1_eq, m1_eq2, m1_lt, m1_le, m1_lt2, m1_le2, m1_m1, nI_m1, nI_subn, gb_n, Nat.add_zero, Nat.zero_add, Nat.zero_or, Nat.or_zero, nle_f, nle_t, nlt_f, nlt_t, neq_f, neq_t, Bool.false_eq_true, eq_self, if_true, if_false, ite_true, ite_false, and_true, true_and, and_false, false_and, decide_true, decide_false, Bool.and_true, Bool.true_and, Bool.and_false, Bool.false_and, Bool.or_false, Bool.false_or, Bool.or_true, Bool.true_or, Bool.not_true, Bool.not_false, not_true_eq_false, not_false_eq_true, hG.1, e3, h3]
        · show f_X9_strange_h2_b _ _ _ _ = _
          unfold f_X9_strange_h2_b
          simp (disch := omega) only [pn_lt, pn_ltM, pl_ofN, ↓pl_m1, pl_lit, fa_litL, pn_bs, ck_n, ckh_n, ck_t, ckh_t, nI_add, nI_clamp, nI_ltI, nI_leI, nI_eq, m1_eq, m1_eq2, m1_lt, m1_le, m1_lt2, m1_le2, m1_m1, nI_m1, nI_subn, gb_n, Nat.add_zero, Nat.zero_add, Nat.zero_or, Nat.or_zero, nle_f, nle_t, nlt_f, nlt_t, neq_f, neq_t, Bool.false_eq_true, eq_self, if_true, if_false, ite_true, ite_false, and_true, true_and, and_false, false_and, decide_true, decide_false, Bool.and_true, Bool.true_and, Bool.and_false, Bool.false_and, Bool.or_false, Bool.false_or, Bool.or_true, Bool.true_or, Bool.not_true, Bool.not_false, not_true_eq_false, not_false_eq_true, hG.2.1, e2, h3]
      · refine ⟨r, ?_, ?_⟩
        · show f_X4_firstStrange_h2_b _ _ _ _ = _
          unfold f_X4_firstStrange_h2_b
          simp (disch := omega) only [pn_lt, pn_ltM, pl_ofN, ↓pl_m1, pl_lit, fa_litL, pn_bs, ck_n, ckh_n, ck_t, ckh_t, nI_add, nI_clamp, nI_ltI, nI_leI, nI_eq, m1_eq, m1_eq2, m1_lt, m1_le, m1_lt2, m1_le2, m1_m1, nI_m1, nI_subn, gb_n, Nat.add_zero, Nat.zero_add, Nat.zero_or, Nat.or_zero, nle_f, nle_t, nlt_f, nlt_t, neq_f, neq_t, Bool.false_eq_true, eq_self, if_true, if_false, ite_true, ite_false, and_true, true_and, and_false, false_and, decide_true, decide_false, Bool.and_true, Bool.true_and, Bool.and_false, Bool.false_and, Bool.or_false, Bool.false_or, Bool.or_true, Bool.true_or, Bool.not_true, Bool.not_false, not_true_eq_false, not_false_eq_true, hG.1, e3]
          exact r1
        · show f_X9_strange_h2_b _ _ _ _ = _
          unfold f_X9_strange_h2_b
          simp (disch := omega) only [pn_lt, pn_ltM, pl_ofN, ↓pl_m1, pl_lit, fa_litL, pn_bs, ck_n, ckh_n, ck_t, ckh_t, nI_add, nI_clamp, nI_ltI, nI_leI, nI_eq, m1_eq, m1_eq2, m1_lt, m1_le, m1_lt2, m1_le2, m1_m1, nI_m1, nI_subn, gb_n, Nat.add_zero, Nat.zero_add, Nat.zero_or, Nat.or_zero, nle_f, nle_t, nlt_f, nlt_t, neq_f, neq_t, Bool.false_eq_true, eq_self, if_true, if_false, ite_true, ite_false, and_true, true_and, and_false, false_and, decide_true, decide_false, Bool.and_true, Bool.true_and, Bool.and_false, Bool.false_and, Bool.or_false, Bool.false_or, Bool.or_true, Bool.true_or, Bool.not_true, Bool.not_false, not_true_eq_false, not_false_eq_true, hG.2.1, e2]
          exact r2
  obtain ⟨r, r1, r2⟩ := key (D 0 7) 0 F (by omega) (by omega)
  refine ⟨r, ?_, r2⟩
  rw [show (0 : Int32) = nI 0 from rfl, r1]
  rfl
end EV
