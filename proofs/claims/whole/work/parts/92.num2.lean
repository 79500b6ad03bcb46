/-! numbers of the text -/
section EV
variable {T : Nat → Nat} {tl F : Nat} {M : gM}
theorem vl_le {s e : Nat} (h : ∀ j, s ≤ j → j < e → fiB T j = true) : ∀ m, s + m ≤ e → m ≤ 3 → vl T s m ≤ 10 ^ m - 1
  | 0, _, _ => Nat.le_refl _
  | m + 1, h1, h2 => by
    have ih := vl_le h m (by omega) (by omega)
    have := fiB_t (h (s + m) (by omega) (by omega))
    show vl T s m * 10 + (T (s + m) - 48) ≤ _
    rcases (by omega : m = 0 ∨ m = 1 ∨ m = 2) with q | q | q <;> subst q <;> simp only [Nat.reducePow, Nat.reduceAdd, Nat.reduceSub] at ih ⊢ <;> omega
theorem vl_999 {s e : Nat} (h : ∀ j, s ≤ j → j < e → fiB T j = true) {m : Nat} (h1 : s + m ≤ e) (h2 : m ≤ 3) : vl T s m ≤ 999 := by
  have := vl_le h m h1 h2
  rcases (by omega : m = 0 ∨ m = 1 ∨ m = 2 ∨ m = 3) with q | q | q | q <;> subst q <;> simp only [Nat.reducePow, Nat.reduceSub] at this <;> omega
theorem nI_dig {a c : Nat} (h : 48 ≤ c) : nI (a * 10) + nI c - nI 48 = nI (a * 10 + (c - 48)) := by
  rw [nI_add, nI_subn (by omega)]
  congr 1
  omega
/-- what a call for a number comes to: fault number (0: none) of the figures from s to e, value v, bound a -/
def nfN (s e v : Nat) (a : Int32) : Nat := if e = s then 1 else if 3 < e - s ∨ ¬ nI v ≤ a then 2 else 0
theorem e3_readNumber (hF : 4000 ≤ F) (hb : xTb T tl) (h8 : xT8 T tl M) {t s e : Nat} (a : Int32) (ht : t ≤ tl) (hM : M 25 2 = nI t) (h4 : M 25 4 = nI 0) (hs : s = sc (blB T) tl t) (he : e = sc (fiB T) tl s) : ∃ v M', f_X3_readNumber F a M = some (nI v, M') ∧ (∀ k, k ≠ 25 → M' k = M k) ∧ M' 25 2 = nI e ∧ M' 25 3 = nI s ∧ M' 25 4 = nI (nfN s e v a) ∧ M' 25 5 = (if nfN s e v a = 0 then M 25 5 else nI s) ∧ v ≤ 999 ∧ (e - s ≤ 3 → v = vl T s (e - s)) := by
  have h400 := hb.1
  obtain ⟨M1, r1, r2, r3, r4⟩ := e3_skip hF hb h8 ht hM
  have hst := sc_le (blB T) ht
  rw [← hs] at hst r4
  have hge := sc_ge (fiB T) hst
  have hle := sc_le (fiB T) hst
  have hin : ∀ j, s ≤ j → j < e → fiB T j = true := fun j q1 q2 => sc_in hst q1 (by rw [← he]; exact q2)
  obtain ⟨⟨x, N⟩, n', ⟨g1, g2, g3, g5, g6, g7, g8⟩, h7⟩ := sc_inv (fiB T) tl (fun n (y : Int32 × gM) => f_X3_readNumber_h23 F a n y.1 y.2) (fun t' y => (∀ k, k ≠ 25 → y.2 k = M k) ∧ (∀ j, j ≠ 2 → j ≠ 3 → y.2 25 j = M 25 j) ∧ y.2 25 3 = nI s ∧ y.2 25 2 = nI t' ∧ y.1 = nI (vl T s (min (t' - s) 3)) ∧ s ≤ t' ∧ sc (fiB T) tl t' = e) (by
    rintro n t' ⟨x, N⟩ ht' hp ⟨q1, q2, q3, q5, q6, q7, q8⟩
    dsimp only at q1 q2 q3 q5 q6
    have e1 := e6_byteAt hb (xT8_25 h8 q1) ht'
    have e0 := (xT8_25 h8 q1).1
    have e2 := fiB_t hp
    rw [sc_step ht' hp] at q8
    have hte : t' + 1 ≤ e := by
      rw [← q8]
      exact sc_ge _ (by omega)
    have hv := vl_999 hin (m := min (t' - s) 3) (by omega) (by omega)
    refine ⟨(nI (vl T s (min (t' + 1 - s) 3)), gst N 25 2 (nI (t' + 1))), ⟨fun k hk => ?_, fun j hj hj3 => ?_, ?_, ?_, rfl, by omega, q8⟩, ?_⟩
    · show gst N 25 2 (nI (t' + 1)) k = M k
      rw [gst_ne _ _ _ _ hk, q1 k hk]
    · show gst N 25 2 (nI (t' + 1)) 25 j = M 25 j
      rw [gst_v, if_neg (by omega), q2 j hj hj3]
    · show gst N 25 2 (nI (t' + 1)) 25 3 = nI s
      rw [gst_v, if_neg (by omega), q3]
    · show gst N 25 2 (nI (t' + 1)) 25 2 = nI (t' + 1)
      rw [gst_v, if_pos ⟨rfl, rfl⟩]
    · show f_X3_readNumber_h23_b _ _ _ _ _ = _
      unfold f_X3_readNumber_h23_b f_X6_isFigure f_X3_readNumber_b84
      dsimp only
      rw [q6]
      by_cases c : t' - s < 3
      · have e3 : min (t' - s) 3 = t' - s := by omega
        have e4 : min (t' + 1 - s) 3 = t' - s + 1 := by omega
        have e5 : vl T s (t' - s + 1) = vl T s (t' - s) * 10 + (T t' - 48) := by
          show vl T s (t' - s) * 10 + (T (s + (t' - s)) - 48) = _
          rw [show s + (t' - s) = t' by omega]
        rw [e3] at hv
        have e6 : nI (vl T s (t' - s)) * nI 10 = nI (vl T s (t' - s) * 10) := pk_mul _ _
        rw [e3, e4, e5]
        have e7 : vl T s (t' - s) * 10 + T t' - 48 = vl T s (t' - s) * 10 + (T t' - 48) := by omega
        simp (disch := omega) only [pn_lt, pn_ltM, pl_ofN, ↓pl_m1, pl_lit, fa_litL, pn_bs, ck_n, ckh_n, ck_t, ckh_t, nI_add, nI_clamp, nI_ltI, nI_leI, nI_eq, m1_eq, m1_eq2, m1_lt, m1_le, m1_lt2, m1_le2, m1_m1, nI_m1, nI_subn, gb_n, Nat.add_zero, Nat.zero_add, Nat.zero_or, Nat.or_zero, nle_f, nle_t, nlt_f, nlt_t, neq_f, neq_t, Bool.false_eq_true, eq_self, if_true, if_false, ite_true, ite_false, and_true, true_and, and_false, false_and, decide_true, decide_false, Bool.and_true, Bool.true_and, Bool.and_false, Bool.false_and, Bool.or_false, Bool.false_or, Bool.or_true, Bool.true_or, Bool.not_true, Bool.not_false, not_true_eq_false, not_false_eq_true, e0, e1, q5, q3, e6, e7]
      · have e3 : min (t' - s) 3 = 3 := by omega
        have e4 : min (t' + 1 - s) 3 = 3 := by omega
        rw [e3, e4]
        simp (disch := omega) only [pn_lt, pn_ltM, pl_ofN, ↓pl_m1, pl_lit, fa_litL, pn_bs, ck_n, ckh_n, ck_t, ckh_t, nI_add, nI_clamp, nI_ltI, nI_leI, nI_eq, m1_eq, m1_eq2, m1_lt, m1_le, m1_lt2, m1_le2, m1_m1, nI_m1, nI_subn, gb_n, Nat.add_zero, Nat.zero_add, Nat.zero_or, Nat.or_zero, nle_f, nle_t, nlt_f, nlt_t, neq_f, neq_t, Bool.false_eq_true, eq_self, if_true, if_false, ite_true, ite_false, and_true, true_and, and_false, false_and, decide_true, decide_false, Bool.and_true, Bool.true_and, Bool.and_false, Bool.false_and, Bool.or_false, Bool.false_or, Bool.or_true, Bool.true_or, Bool.not_true, Bool.not_false, not_true_eq_false, not_false_eq_true, e0, e1, q5, q3]) (tl - s) s (nI 0, gst M1 25 3 (nI s)) F rfl hst (by omega) ⟨fun k hk => (gst_ne _ _ _ _ hk).trans (by rw [r2 k hk]), fun j h2 h3 => (gst_v M1 25 3 (nI s) 25 j).trans (by rw [if_neg (by omega), r3 j h2]), (gst_v M1 25 3 (nI s) 25 3).trans (if_pos ⟨rfl, rfl⟩), (gst_v M1 25 3 (nI s) 25 2).trans (by rw [if_neg (by omega), r4]), by rw [Nat.sub_self]; rfl, Nat.le_refl _, he.symm⟩
  rw [← he] at g5 g6 g7 g8 hge hle
  dsimp only at g1 g2 g3 g5 g6
  have hv := vl_999 hin (m := min (e - s) 3) (by omega) (by omega)
  have e0 := (xT8_25 h8 g1).1
  have hb97 : f_X3_readNumber_h23 F a (n' + 1) x N = f_X3_readNumber_b97 F a x N := by
    show f_X3_readNumber_h23_b _ _ _ _ _ = _
    unfold f_X3_readNumber_h23_b f_X6_isFigure
    by_cases c : e < tl
    · have e1 := e6_byteAt hb (xT8_25 h8 g1) c
      have e2 : fiB T e = false := by rw [he]; exact sc_end hst (by rw [← he]; exact c)
      have e3 := fiB_f e2
      have e4 := hb.2 _ c
      by_cases c6 : T e < 48
      · simp (disch := omega) only [pn_lt, pn_ltM, pl_ofN, ↓pl_m1, pl_lit, fa_litL, pn_bs, ck_n, ckh_n, ck_t, ckh_t, nI_add, nI_clamp, nI_ltI, nI_leI, nI_eq, m1_eq, m1_eq2, m1_lt, m1_le, m1_lt2, m1_le2, m1_m1, nI_m1, nI_subn, gb_n, Nat.add_zero, Nat.zero_add, Nat.zero_or, Nat.or_zero, nle_f, nle_t, nlt_f, nlt_t, neq_f, neq_t, Bool.false_eq_true, eq_self, if_true, if_false, ite_true, ite_false, and_true, true_and, and_false, false_and, decide_true, decide_false, Bool.and_true, Bool.true_and, Bool.and_false, Bool.false_and, Bool.or_false, Bool.false_or, Bool.or_true, Bool.true_or, Bool.not_true, Bool.not_false, not_true_eq_false, not_false_eq_true, e0, e1, g5]
      · simp (disch := omega) only [pn_lt, pn_ltM, pl_ofN, ↓pl_m1, pl_lit, fa_litL, pn_bs, ck_n, ckh_n, ck_t, ckh_t, nI_add, nI_clamp, nI_ltI, nI_leI, nI_eq, m1_eq, m1_eq2, m1_lt, m1_le, m1_lt2, m1_le2, m1_m1, nI_m1, nI_subn, gb_n, Nat.add_zero, Nat.zero_add, Nat.zero_or, Nat.or_zero, nle_f, nle_t, nlt_f, nlt_t, neq_f, neq_t, Bool.false_eq_true, eq_self, if_true, if_false, ite_true, ite_false, and_true, true_and, and_false, false_and, decide_true, decide_false, Bool.and_true, Bool.true_and, Bool.and_false, Bool.false_and, Bool.or_false, Bool.false_or, Bool.or_true, Bool.true_or, Bool.not_true, Bool.not_false, not_true_eq_false, not_false_eq_true, e0, e1, g5]
    · simp (disch := omega) only [pn_lt, pn_ltM, pl_ofN, ↓pl_m1, pl_lit, fa_litL, pn_bs, ck_n, ckh_n, ck_t, ckh_t, nI_add, nI_clamp, nI_ltI, nI_leI, nI_eq, m1_eq, m1_eq2, m1_lt, m1_le, m1_lt2, m1_le2, m1_m1, nI_m1, nI_subn, gb_n, Nat.add_zero, Nat.zero_add, Nat.zero_or, Nat.or_zero, nle_f, nle_t, nlt_f, nlt_t, neq_f, neq_t, Bool.false_eq_true, eq_self, if_true, if_false, ite_true, ite_false, and_true, true_and, and_false, false_and, decide_true, decide_false, Bool.and_true, Bool.true_and, Bool.and_false, Bool.false_and, Bool.or_false, Bool.false_or, Bool.or_true, Bool.true_or, Bool.not_true, Bool.not_false, not_true_eq_false, not_false_eq_true, e0, g5]
  have hfin : ∃ M', f_X3_readNumber_b97 F a x N = some (x, M') ∧ (∀ k, k ≠ 25 → M' k = N k) ∧ M' 25 2 = N 25 2 ∧ M' 25 3 = N 25 3 ∧ M' 25 4 = nI (nfN s e (vl T s (min (e - s) 3)) a) ∧ M' 25 5 = (if nfN s e (vl T s (min (e - s) 3)) a = 0 then N 25 5 else nI s) := by
    have g4 : N 25 4 = nI 0 := by rw [g2 _ (by omega) (by omega), h4]
    unfold f_X3_readNumber_b97 f_X3_readNumber_b138 f_X3_fail nfN
    rw [g6]
    by_cases c1 : e = s
    · refine ⟨gst (gst N 25 4 (nI 1)) 25 5 (nI s), ?_, fun k hk => ?_, ?_, ?_, ?_, ?_⟩
      · simp (disch := omega) only [pn_lt, pn_ltM, pl_ofN, ↓pl_m1, pl_lit, fa_litL, pn_bs, ck_n, ckh_n, ck_t, ckh_t, nI_add, nI_clamp, nI_ltI, nI_leI, nI_eq, m1_eq, m1_eq2, m1_lt, m1_le, m1_lt2, m1_le2, m1_m1, nI_m1, nI_subn, gb_n, Nat.add_zero, Nat.zero_add, Nat.zero_or, Nat.or_zero, nle_f, nle_t, nlt_f, nlt_t, neq_f, neq_t, Bool.false_eq_true, eq_self, if_true, if_false, ite_true, ite_false, and_true, true_and, and_false, false_and, decide_true, decide_false, Bool.and_true, Bool.true_and, Bool.and_false, Bool.false_and, Bool.or_false, Bool.false_or, Bool.or_true, Bool.true_or, Bool.not_true, Bool.not_false, not_true_eq_false, not_false_eq_true, g5, g3, g4, c1]
      · rw [gst_ne _ _ _ _ hk, gst_ne _ _ _ _ hk]
      · simp (disch := omega) only [pn_lt, pn_ltM, pl_ofN, ↓pl_m1, pl_lit, fa_litL, pn_bs, ck_n, ckh_n, ck_t, ckh_t, nI_add, nI_clamp, nI_ltI, nI_leI, nI_eq, m1_eq, m1_eq2, m1_lt, m1_le, m1_lt2, m1_le2, m1_m1, nI_m1, nI_subn, gb_n, Nat.add_zero, Nat.zero_add, Nat.zero_or, Nat.or_zero, nle_f, nle_t, nlt_f, nlt_t, neq_f, neq_t, Bool.false_eq_true, eq_self, if_true, if_false, ite_true, ite_false, and_true, true_and, and_false, false_and, decide_true, decide_false, Bool.and_true, Bool.true_and, Bool.and_false, Bool.false_and, Bool.or_false, Bool.false_or, Bool.or_true, Bool.true_or, Bool.not_true, Bool.not_false, not_true_eq_false, not_false_eq_true, gst_v]
      · simp (disch := omega) only [pn_lt, pn_ltM, pl_ofN, ↓pl_m1, pl_lit, fa_litL, pn_bs, ck_n, ckh_n, ck_t, ckh_t, nI_add, nI_clamp, nI_ltI, nI_leI, nI_eq, m1_eq, m1_eq2, m1_lt, m1_le, m1_lt2, m1_le2, m1_m1, nI_m1, nI_subn, gb_n, Nat.add_zero, Nat.zero_add, Nat.zero_or, Nat.or_zero, nle_f, nle_t, nlt_f, nlt_t, neq_f, neq_t, Bool.false_eq_true, eq_self, if_true, if_false, ite_true, ite_false, and_true, true_and, and_false, false_and, decide_true, decide_false, Bool.and_true, Bool.true_and, Bool.and_false, Bool.false_and, Bool.or_false, Bool.false_or, Bool.or_true, Bool.true_or, Bool.not_true, Bool.not_false, not_true_eq_false, not_false_eq_true, gst_v]
      · simp (disch := omega) only [pn_lt, pn_ltM, pl_ofN, ↓pl_m1, pl_lit, fa_litL, pn_bs, ck_n, ckh_n, ck_t, ckh_t, nI_add, nI_clamp, nI_ltI, nI_leI, nI_eq, m1_eq, m1_eq2, m1_lt, m1_le, m1_lt2, m1_le2, m1_m1, nI_m1, nI_subn, gb_n, Nat.add_zero, Nat.zero_add, Nat.zero_or, Nat.or_zero, nle_f, nle_t, nlt_f, nlt_t, neq_f, neq_t, Bool.false_eq_true, eq_self, if_true, if_false, ite_true, ite_false, and_true, true_and, and_false, false_and, decide_true, decide_false, Bool.and_true, Bool.true_and, Bool.and_false, Bool.false_and, Bool.or_false, Bool.false_or, Bool.or_true, Bool.true_or, Bool.not_true, Bool.not_false, not_true_eq_false, not_false_eq_true, gst_v, c1]
      · simp (disch := omega) only [pn_lt, pn_ltM, pl_ofN, ↓pl_m1, pl_lit, fa_litL, pn_bs, ck_n, ckh_n, ck_t, ckh_t, nI_add, nI_clamp, nI_ltI, nI_leI, nI_eq, m1_eq, m1_eq2, m1_lt, m1_le, m1_lt2, m1_le2, m1_m1, nI_m1, nI_subn, gb_n, Nat.add_zero, Nat.zero_add, Nat.zero_or, Nat.or_zero, nle_f, nle_t, nlt_f, nlt_t, neq_f, neq_t, Bool.false_eq_true, eq_self, if_true, if_false, ite_true, ite_false, and_true, true_and, and_false, false_and, decide_true, decide_false, Bool.and_true, Bool.true_and, Bool.and_false, Bool.false_and, Bool.or_false, Bool.false_or, Bool.or_true, Bool.true_or, Bool.not_true, Bool.not_false, not_true_eq_false, not_false_eq_true, gst_v, c1]
    · by_cases c2 : 3 < e - s
      · refine ⟨gst (gst N 25 4 (nI 2)) 25 5 (nI s), ?_, fun k hk => ?_, ?_, ?_, ?_, ?_⟩
        · simp (disch := omega) only [pn_lt, pn_ltM, pl_ofN, ↓pl_m1, pl_lit, fa_litL, pn_bs, ck_n, ckh_n, ck_t, ckh_t, nI_add, nI_clamp, nI_ltI, nI_leI, nI_eq, m1_eq, m1_eq2, m1_lt, m1_le, m1_lt2, m1_le2, m1_m1, nI_m1, nI_subn, gb_n, Nat.add_zero, Nat.zero_add, Nat.zero_or, Nat.or_zero, nle_f, nle_t, nlt_f, nlt_t, neq_f, neq_t, Bool.false_eq_true, eq_self, if_true, if_false, ite_true, ite_false, and_true, true_and, and_false, false_and, decide_true, decide_false, Bool.and_true, Bool.true_and, Bool.and_false, Bool.false_and, Bool.or_false, Bool.false_or, Bool.or_true, Bool.true_or, Bool.not_true, Bool.not_false, not_true_eq_false, not_false_eq_true, g5, g3, g4, c1]
        · rw [gst_ne _ _ _ _ hk, gst_ne _ _ _ _ hk]
        · simp (disch := omega) only [pn_lt, pn_ltM, pl_ofN, ↓pl_m1, pl_lit, fa_litL, pn_bs, ck_n, ckh_n, ck_t, ckh_t, nI_add, nI_clamp, nI_ltI, nI_leI, nI_eq, m1_eq, m1_eq2, m1_lt, m1_le, m1_lt2, m1_le2, m1_m1, nI_m1, nI_subn, gb_n, Nat.add_zero, Nat.zero_add, Nat.zero_or, Nat.or_zero, nle_f, nle_t, nlt_f, nlt_t, neq_f, neq_t, Bool.false_eq_true, eq_self, if_true, if_false, ite_true, ite_false, and_true, true_and, and_false, false_and, decide_true, decide_false, Bool.and_true, Bool.true_and, Bool.and_false, Bool.false_and, Bool.or_false, Bool.false_or, Bool.or_true, Bool.true_or, Bool.not_true, Bool.not_false, not_true_eq_false, not_false_eq_true, gst_v]
        · simp (disch := omega) only [pn_lt, pn_ltM, pl_ofN, ↓pl_m1, pl_lit, fa_litL, pn_bs, ck_n, ckh_n, ck_t, ckh_t, nI_add, nI_clamp, nI_ltI, nI_leI, nI_eq, m1_eq, m1_eq2, m1_lt, m1_le, m1_lt2, m1_le2, m1_m1, nI_m1, nI_subn, gb_n, Nat.add_zero, Nat.zero_add, Nat.zero_or, Nat.or_zero, nle_f, nle_t, nlt_f, nlt_t, neq_f, neq_t, Bool.false_eq_true, eq_self, if_true, if_false, ite_true, ite_false, and_true, true_and, and_false, false_and, decide_true, decide_false, Bool.and_true, Bool.true_and, Bool.and_false, Bool.false_and, Bool.or_false, Bool.false_or, Bool.or_true, Bool.true_or, Bool.not_true, Bool.not_false, not_true_eq_false, not_false_eq_true, gst_v]
        · simp (disch := omega) only [pn_lt, pn_ltM, pl_ofN, ↓pl_m1, pl_lit, fa_litL, pn_bs, ck_n, ckh_n, ck_t, ckh_t, nI_add, nI_clamp, nI_ltI, nI_leI, nI_eq, m1_eq, m1_eq2, m1_lt, m1_le, m1_lt2, m1_le2, m1_m1, nI_m1, nI_subn, gb_n, Nat.add_zero, Nat.zero_add, Nat.zero_or, Nat.or_zero, nle_f, nle_t, nlt_f, nlt_t, neq_f, neq_t, Bool.false_eq_true, eq_self, if_true, if_false, ite_true, ite_false, and_true, true_and, and_false, false_and, decide_true, decide_false, Bool.and_true, Bool.true_and, Bool.and_false, Bool.false_and, Bool.or_false, Bool.false_or, Bool.or_true, Bool.true_or, Bool.not_true, Bool.not_false, not_true_eq_false, not_false_eq_true, gst_v, c1, c2, true_or]
        · simp (disch := omega) only [pn_lt, pn_ltM, pl_ofN, ↓pl_m1, pl_lit, fa_litL, pn_bs, ck_n, ckh_n, ck_t, ckh_t, nI_add, nI_clamp, nI_ltI, nI_leI, nI_eq, m1_eq, m1_eq2, m1_lt, m1_le, m1_lt2, m1_le2, m1_m1, nI_m1, nI_subn, gb_n, Nat.add_zero, Nat.zero_add, Nat.zero_or, Nat.or_zero, nle_f, nle_t, nlt_f, nlt_t, neq_f, neq_t, Bool.false_eq_true, eq_self, if_true, if_false, ite_true, ite_false, and_true, true_and, and_false, false_and, decide_true, decide_false, Bool.and_true, Bool.true_and, Bool.and_false, Bool.false_and, Bool.or_false, Bool.false_or, Bool.or_true, Bool.true_or, Bool.not_true, Bool.not_false, not_true_eq_false, not_false_eq_true, gst_v, c1, c2, true_or]
      · by_cases c3 : nI (vl T s (min (e - s) 3)) ≤ a
        · refine ⟨N, ?_, fun k hk => rfl, rfl, rfl, ?_, ?_⟩
          · simp (disch := omega) only [pn_lt, pn_ltM, pl_ofN, ↓pl_m1, pl_lit, fa_litL, pn_bs, ck_n, ckh_n, ck_t, ckh_t, nI_add, nI_clamp, nI_ltI, nI_leI, nI_eq, m1_eq, m1_eq2, m1_lt, m1_le, m1_lt2, m1_le2, m1_m1, nI_m1, nI_subn, gb_n, Nat.add_zero, Nat.zero_add, Nat.zero_or, Nat.or_zero, nle_f, nle_t, nlt_f, nlt_t, neq_f, neq_t, Bool.false_eq_true, eq_self, if_true, if_false, ite_true, ite_false, and_true, true_and, and_false, false_and, decide_true, decide_false, Bool.and_true, Bool.true_and, Bool.and_false, Bool.false_and, Bool.or_false, Bool.false_or, Bool.or_true, Bool.true_or, Bool.not_true, Bool.not_false, not_true_eq_false, not_false_eq_true, g5, g3, g4, c1, c3]
          · simp (disch := omega) only [pn_lt, pn_ltM, pl_ofN, ↓pl_m1, pl_lit, fa_litL, pn_bs, ck_n, ckh_n, ck_t, ckh_t, nI_add, nI_clamp, nI_ltI, nI_leI, nI_eq, m1_eq, m1_eq2, m1_lt, m1_le, m1_lt2, m1_le2, m1_m1, nI_m1, nI_subn, gb_n, Nat.add_zero, Nat.zero_add, Nat.zero_or, Nat.or_zero, nle_f, nle_t, nlt_f, nlt_t, neq_f, neq_t, Bool.false_eq_true, eq_self, if_true, if_false, ite_true, ite_false, and_true, true_and, and_false, false_and, decide_true, decide_false, Bool.and_true, Bool.true_and, Bool.and_false, Bool.false_and, Bool.or_false, Bool.false_or, Bool.or_true, Bool.true_or, Bool.not_true, Bool.not_false, not_true_eq_false, not_false_eq_true, c1, c2, c3, or_self, g4]
          · simp (disch := omega) only [pn_lt, pn_ltM, pl_ofN, ↓pl_m1, pl_lit, fa_litL, pn_bs, ck_n, ckh_n, ck_t, ckh_t, nI_add, nI_clamp, nI_ltI, nI_leI, nI_eq, m1_eq, m1_eq2, m1_lt, m1_le, m1_lt2, m1_le2, m1_m1, nI_m1, nI_subn, gb_n, Nat.add_zero, Nat.zero_add, Nat.zero_or, Nat.or_zero, nle_f, nle_t, nlt_f, nlt_t, neq_f, neq_t, Bool.false_eq_true, eq_self, if_true, if_false, ite_true, ite_false, and_true, true_and, and_false, false_and, decide_true, decide_false, Bool.and_true, Bool.true_and, Bool.and_false, Bool.false_and, Bool.or_false, Bool.false_or, Bool.or_true, Bool.true_or, Bool.not_true, Bool.not_false, not_true_eq_false, not_false_eq_true, c1, c2, c3, or_self]
        · refine ⟨gst (gst N 25 4 (nI 2)) 25 5 (nI s), ?_, fun k hk => ?_, ?_, ?_, ?_, ?_⟩
          · simp (disch := omega) only [pn_lt, pn_ltM, pl_ofN, ↓pl_m1, pl_lit, fa_litL, pn_bs, ck_n, ckh_n, ck_t, ckh_t, nI_add, nI_clamp, nI_ltI, nI_leI, nI_eq, m1_eq, m1_eq2, m1_lt, m1_le, m1_lt2, m1_le2, m1_m1, nI_m1, nI_subn, gb_n, Nat.add_zero, Nat.zero_add, Nat.zero_or, Nat.or_zero, nle_f, nle_t, nlt_f, nlt_t, neq_f, neq_t, Bool.false_eq_true, eq_self, if_true, if_false, ite_true, ite_false, and_true, true_and, and_false, false_and, decide_true, decide_false, Bool.and_true, Bool.true_and, Bool.and_false, Bool.false_and, Bool.or_false, Bool.false_or, Bool.or_true, Bool.true_or, Bool.not_true, Bool.not_false, not_true_eq_false, not_false_eq_true, g5, g3, g4, c1, c3]
          · rw [gst_ne _ _ _ _ hk, gst_ne _ _ _ _ hk]
          · simp (disch := omega) only [pn_lt, pn_ltM, pl_ofN, ↓pl_m1, pl_lit, fa_litL, pn_bs, ck_n, ckh_n, ck_t, ckh_t, nI_add, nI_clamp, nI_ltI, nI_leI, nI_eq, m1_eq, m1_eq2, m1_lt, m1_le, m1_lt2, m1_le2, m1_m1, nI_m1, nI_subn, gb_n, Nat.add_zero, Nat.zero_add, Nat.zero_or, Nat.or_zero, nle_f, nle_t, nlt_f, nlt_t, neq_f, neq_t, Bool.false_eq_true, eq_self, if_true, if_false, ite_true, ite_false, and_true, true_and, and_false, false_and, decide_true, decide_false, Bool.and_true, Bool.true_and, Bool.and_false, Bool.false_and, Bool.or_false, Bool.false_or, Bool.or_true, Bool.true_or, Bool.not_true, Bool.not_false, not_true_eq_false, not_false_eq_true, gst_v]
          · simp (disch := omega) only [pn_lt, pn_ltM, pl_ofN, ↓pl_m1, pl_lit, fa_litL, pn_bs, ck_n, ckh_n, ck_t, ckh_t, nI_add, nI_clamp, nI_ltI, nI_leI, nI_eq, m1_eq, m1_eq2, m1_lt, m1_le, m1_lt2, m1_le2, m1_m1, nI_m1, nI_subn, gb_n, Nat.add_zero, Nat.zero_add, Nat.zero_or, Nat.or_zero, nle_f, nle_t, nlt_f, nlt_t, neq_f, neq_t, Bool.false_eq_true, eq_self, if_true, if_false, ite_true, ite_false, and_true, true_and, and_false, false_and, decide_true, decide_false, Bool.and_true, Bool.true_and, Bool.and_false, Bool.false_and, Bool.or_false, Bool.false_or, Bool.or_true, Bool.true_or, Bool.not_true, Bool.not_false, not_true_eq_false, not_false_eq_true, gst_v]
          · simp (disch := omega) only [pn_lt, pn_ltM, pl_ofN, ↓pl_m1, pl_lit, fa_litL, pn_bs, ck_n, ckh_n, ck_t, ckh_t, nI_add, nI_clamp, nI_ltI, nI_leI, nI_eq, m1_eq, m1_eq2, m1_lt, m1_le, m1_lt2, m1_le2, m1_m1, nI_m1, nI_subn, gb_n, Nat.add_zero, Nat.zero_add, Nat.zero_or, Nat.or_zero, nle_f, nle_t, nlt_f, nlt_t, neq_f, neq_t, Bool.false_eq_true, eq_self, if_true, if_false, ite_true, ite_false, and_true, true_and, and_false, false_and, decide_true, decide_false, Bool.and_true, Bool.true_and, Bool.and_false, Bool.false_and, Bool.or_false, Bool.false_or, Bool.or_true, Bool.true_or, Bool.not_true, Bool.not_false, not_true_eq_false, not_false_eq_true, gst_v, c1, c2, c3, or_true]
          · simp (disch := omega) only [pn_lt, pn_ltM, pl_ofN, ↓pl_m1, pl_lit, fa_litL, pn_bs, ck_n, ckh_n, ck_t, ckh_t, nI_add, nI_clamp, nI_ltI, nI_leI, nI_eq, m1_eq, m1_eq2, m1_lt, m1_le, m1_lt2, m1_le2, m1_m1, nI_m1, nI_subn, gb_n, Nat.add_zero, Nat.zero_add, Nat.zero_or, Nat.or_zero, nle_f, nle_t, nlt_f, nlt_t, neq_f, neq_t, Bool.false_eq_true, eq_self, if_true, if_false, ite_true, ite_false, and_true, true_and, and_false, false_and, decide_true, decide_false, Bool.and_true, Bool.true_and, Bool.and_false, Bool.false_and, Bool.or_false, Bool.false_or, Bool.or_true, Bool.true_or, Bool.not_true, Bool.not_false, not_true_eq_false, not_false_eq_true, gst_v, c1, c2, c3, or_true]
  obtain ⟨M', f1, f2, f3, f4, f5, f6⟩ := hfin
  refine ⟨vl T s (min (e - s) 3), M', ?_, fun k hk => by rw [f2 k hk, g1 k hk], f3.trans g5, f4.trans g3, f5, ?_, hv, fun q => by rw [show min (e - s) 3 = e - s by omega]⟩
  · unfold f_X3_readNumber
    rw [show (0 : Int32) = nI 0 from rfl, h4, if_pos rfl, r1, pn_bs, pn_ltM, r4]
    refine h7.trans ?_
    rw [hb97, f1, g6]
  · rw [f6]
    split
    · exact g2 _ (by omega) (by omega)
    · rfl
end EV
