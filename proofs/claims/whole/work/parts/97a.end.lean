/-! the end of a clause; the half-read town -/
def zE (E : Nat → Nat → Nat) (M8 M9 : gM) : Prop :=
  M8 14 10 = nI (E 0 0) ∧ M8 14 11 = nI (E 0 2) ∧ M8 14 12 = nI (E 0 1) ∧ M9 108 4 = nI (E 0 0) ∧ M9 108 5 = nI (E 0 2) ∧ M9 108 6 = nI (E 0 1) ∧
  (∀ p, p < E 0 0 → M8 15 p = nI (E 1 p) ∧ M8 16 p = nI (E 2 p) ∧ M8 17 p = nI (E 3 p) ∧ M8 18 p = nI (E 4 p) ∧ M8 19 p = nI (E 6 p) ∧ M8 20 p = nI (E 7 p) ∧ M8 21 p = nI (E 8 p) ∧
    M9 98 (10 + p) = nI (E 1 p) ∧ M9 99 (10 + p) = nI (E 2 p) ∧ M9 100 (10 + p) = nI (E 3 p) ∧ M9 101 (10 + p) = nI (E 4 p) ∧ M9 102 (10 + p) = nI (E 6 p) ∧ M9 103 (10 + p) = nI (E 7 p) ∧ M9 104 (10 + p) = nI (E 8 p)) ∧
  (∀ s, s < E 0 1 → M8 22 s = nI (E 9 s) ∧ M8 23 s = nI (E 10 s) ∧ M8 24 s = nI (E 11 s) ∧ M9 105 (8 + s) = nI (E 9 s) ∧ M9 106 (8 + s) = nI (E 10 s) ∧ M9 107 (8 + s) = nI (E 11 s))
def zB (E : Nat → Nat → Nat) : Prop := qBT E ∧ (∀ p, p < E 0 0 → E 3 p ≤ 9 ∧ E 4 p ≤ 99) ∧ ∀ p q, p < E 0 0 → q < E 0 0 → (E 8 p).testBit q = (E 8 q).testBit p
theorem zE_fr {E : Nat → Nat → Nat} {M8 M9 A8 A9 : gM} (h : zE E M8 M9) (f8 : ∀ k j, 14 ≤ k → k ≤ 24 → A8 k j = M8 k j) (f9 : ∀ k j, 98 ≤ k → k ≤ 108 → A9 k j = M9 k j) : zE E A8 A9 := by
  obtain ⟨h1, h2, h3, h4, h5, h6, h7, h8⟩ := h
  refine ⟨(f8 _ _ (by omega) (by omega)).trans h1, (f8 _ _ (by omega) (by omega)).trans h2, (f8 _ _ (by omega) (by omega)).trans h3, (f9 _ _ (by omega) (by omega)).trans h4, (f9 _ _ (by omega) (by omega)).trans h5, (f9 _ _ (by omega) (by omega)).trans h6, fun p hp => ?_, fun s hs => ?_⟩
  · obtain ⟨a1, a2, a3, a4, a5, a6, a7, b1, b2, b3, b4, b5, b6, b7⟩ := h7 p hp
    exact ⟨(f8 _ _ (by omega) (by omega)).trans a1, (f8 _ _ (by omega) (by omega)).trans a2, (f8 _ _ (by omega) (by omega)).trans a3, (f8 _ _ (by omega) (by omega)).trans a4, (f8 _ _ (by omega) (by omega)).trans a5, (f8 _ _ (by omega) (by omega)).trans a6, (f8 _ _ (by omega) (by omega)).trans a7, (f9 _ _ (by omega) (by omega)).trans b1, (f9 _ _ (by omega) (by omega)).trans b2, (f9 _ _ (by omega) (by omega)).trans b3, (f9 _ _ (by omega) (by omega)).trans b4, (f9 _ _ (by omega) (by omega)).trans b5, (f9 _ _ (by omega) (by omega)).trans b6, (f9 _ _ (by omega) (by omega)).trans b7⟩
  · obtain ⟨a1, a2, a3, b1, b2, b3⟩ := h8 s hs
    exact ⟨(f8 _ _ (by omega) (by omega)).trans a1, (f8 _ _ (by omega) (by omega)).trans a2, (f8 _ _ (by omega) (by omega)).trans a3, (f9 _ _ (by omega) (by omega)).trans b1, (f9 _ _ (by omega) (by omega)).trans b2, (f9 _ _ (by omega) (by omega)).trans b3⟩
/-- the model behind a clause -/
def tlK (F : Nat) (K : gM → Option (Int32 × gM)) (M : gM) : Option (Int32 × gM) :=
  if (M 95 18) = 0 then
    (f_X9_here F M).bind fun r30 =>
    if r30.1 = (59 : Int32) then
      f_X9_town_b77 F K (1 : Int32) r30.2
    else
      f_X9_town_b77 F K (0 : Int32) r30.2
  else
    K M
section EV
variable {T : Nat → Nat} {tl F : Nat} {M8 M9 : gM}
theorem z_end (hF : 4000 ≤ F) (hb : xTb T tl) {fn t : Nat} (h : zR T tl M8 M9 fn t) : ∃ fn' t' A8 A9, f_X3_readEnd F M8 = some A8 ∧ (∀ K, tlK F K M9 = K A9) ∧ zR T tl A8 A9 fn' t' ∧ fr8 M8 A8 ∧ fr9 M9 A9 ∧ (fn' = 0 → fn = 0 ∧ t < t') := by
  obtain ⟨h8, h9, h4, e8, e9, ep, ht, et, e0⟩ := id h
  have h400 := hb.1
  by_cases c : fn = 0
  · subst c
    obtain ⟨et9, es⟩ := e0 rfl
    obtain ⟨B8, r1, r2, r3, r4⟩ := e3_skip hF hb h8 ht et
    obtain ⟨B9, s1, s2, s3, s4⟩ := e9_here hF hb h9 ht et9
    have hsl := sc_le (blB T) ht
    have hsg := sc_ge (blB T) ht
    have hs9 : fr9 M9 B9 := ⟨s2, fun j hj => s3 j (by omega)⟩
    have zB1 : zR T tl B8 B9 0 (sc (blB T) tl t) := ⟨xT8_25 h8 r2, xT9_fr9 h9 hs9, h4, by rw [r3 _ (by omega), e8], by rw [s3 _ (by omega), e9], by rw [r3 _ (by omega), s3 _ (by omega), ep], hsl, r4, fun _ => ⟨s4, by rw [r3 _ (by omega), s3 _ (by omega), es]⟩⟩
    generalize sc (blB T) tl t = s at *
    have b8 := zB1.1
    have d8 : B8 25 4 = nI 0 := zB1.2.2.2.1
    have d9 : B9 95 18 = nI 0 := zB1.2.2.2.2.1
    by_cases cc : s < tl ∧ T s = 59
    · have e1 := e6_byteAt hb b8 cc.1
      rw [cc.2] at e1
      have hs1 := cc.1
      have f8 : fr8 B8 (gst B8 25 2 (nI (s + 1))) := fun k hk => by rw [gst_ne _ _ _ _ hk]
      have f9 : fr9 B9 (gst B9 95 15 (nI (s + 1))) := ⟨fun k hk => by rw [gst_ne _ _ _ _ hk], fun j hj => by rw [gst_v, if_neg (by omega)]⟩
      refine ⟨0, s + 1, gst B8 25 2 (nI (s + 1)), gst B9 95 15 (nI (s + 1)), ?_, fun K => ?_, ⟨xT8_25 b8 f8, xT9_fr9 zB1.2.1 f9, h4, ?_, ?_, ?_, by omega, ?_, fun _ => ⟨?_, ?_⟩⟩, fr8_t r2 f8, fr9_t hs9 f9, fun _ => ⟨rfl, by omega⟩⟩
      · unfold f_X3_readEnd
        simp (disch := omega) only [pn_lt, pn_ltM, pl_ofN, ↓pl_m1, pl_lit, fa_litL, pn_bs, ck_n, ckh_n, ck_t, ckh_t, nI_add, nI_clamp, nI_ltI, nI_leI, nI_eq, m1_eq, m1_eq2, m1_lt, m1_le, m1_lt2, m1_le2, m1_m1, nI_m1, nI_subn, gb_n, Nat.add_zero, Nat.zero_add, Nat.zero_or, Nat.or_zero, nle_f, nle_t, nlt_f, nlt_t, neq_f, neq_t, Bool.false_eq_true, eq_self, if_true, if_false, ite_true, ite_false, and_true, true_and, and_false, false_and, decide_true, decide_false, Bool.and_true, Bool.true_and, Bool.and_false, Bool.false_and, Bool.or_false, Bool.false_or, Bool.or_true, Bool.true_or, Bool.not_true, Bool.not_false, not_true_eq_false, not_false_eq_true, e8, r1, r4, e1]
      · unfold tlK f_X9_town_b77
        have ew := e9_want_1 (M := B9) (w := nI s) (n := nI 1) d9
        simp (disch := omega) only [pn_lt, pn_ltM, pl_ofN, ↓pl_m1, pl_lit, fa_litL, pn_bs, ck_n, ckh_n, ck_t, ckh_t, nI_add, nI_clamp, nI_ltI, nI_leI, nI_eq, m1_eq, m1_eq2, m1_lt, m1_le, m1_lt2, m1_le2, m1_m1, nI_m1, nI_subn, gb_n, Nat.add_zero, Nat.zero_add, Nat.zero_or, Nat.or_zero, nle_f, nle_t, nlt_f, nlt_t, neq_f, neq_t, Bool.false_eq_true, eq_self, if_true, if_false, ite_true, ite_false, and_true, true_and, and_false, false_and, decide_true, decide_false, Bool.and_true, Bool.true_and, Bool.and_false, Bool.false_and, Bool.or_false, Bool.false_or, Bool.or_true, Bool.true_or, Bool.not_true, Bool.not_false, not_true_eq_false, not_false_eq_true, e9, s1, cc, ew, s4]
      · rw [gst_v, if_neg (by omega)]; exact d8
      · rw [gst_v, if_neg (by omega)]; exact d9
      · rw [gst_v, if_neg (by omega), gst_v, if_neg (by omega)]; exact zB1.2.2.2.2.2.1
      · rw [gst_v, if_pos ⟨rfl, rfl⟩]
      · rw [gst_v, if_pos ⟨rfl, rfl⟩]
      · rw [gst_v, if_neg (by omega), gst_v, if_neg (by omega)]; exact (zB1.2.2.2.2.2.2.2.2 rfl).2
    · obtain ⟨fn', A8, A9, a1, a2, a3, a4, a5, a6, -⟩ := z_fail (num := 1) zB1 (by omega) (by omega) (w8 := nI s) (w9 := nI s) (fun _ => rfl)
      refine ⟨fn', s, A8, A9, ?_, fun K => ?_, a3, fr8_t r2 a4, fr9_t hs9 a5, fun q => absurd q a6⟩
      · unfold f_X3_readEnd
        by_cases c1 : s < tl
        · have e1 := e6_byteAt hb b8 c1
          have e2 := hb.2 _ c1
          have e3 : ¬ T s = 59 := fun q => cc ⟨c1, q⟩
          simp (disch := omega) only [pn_lt, pn_ltM, pl_ofN, ↓pl_m1, pl_lit, fa_litL, pn_bs, ck_n, ckh_n, ck_t, ckh_t, nI_add, nI_clamp, nI_ltI, nI_leI, nI_eq, m1_eq, m1_eq2, m1_lt, m1_le, m1_lt2, m1_le2, m1_m1, nI_m1, nI_subn, gb_n, Nat.add_zero, Nat.zero_add, Nat.zero_or, Nat.or_zero, nle_f, nle_t, nlt_f, nlt_t, neq_f, neq_t, Bool.false_eq_true, eq_self, if_true, if_false, ite_true, ite_false, and_true, true_and, and_false, false_and, decide_true, decide_false, Bool.and_true, Bool.true_and, Bool.and_false, Bool.false_and, Bool.or_false, Bool.false_or, Bool.or_true, Bool.true_or, Bool.not_true, Bool.not_false, not_true_eq_false, not_false_eq_true, e8, r1, r4, e1, a1]
        · have e2 : s = tl := by omega
          have e1 := e6_end hb b8
          rw [← e2] at e1
          simp (disch := omega) only [pn_lt, pn_ltM, pl_ofN, ↓pl_m1, pl_lit, fa_litL, pn_bs, ck_n, ckh_n, ck_t, ckh_t, nI_add, nI_clamp, nI_ltI, nI_leI, nI_eq, m1_eq, m1_eq2, m1_lt, m1_le, m1_lt2, m1_le2, m1_m1, nI_m1, nI_subn, gb_n, Nat.add_zero, Nat.zero_add, Nat.zero_or, Nat.or_zero, nle_f, nle_t, nlt_f, nlt_t, neq_f, neq_t, Bool.false_eq_true, eq_self, if_true, if_false, ite_true, ite_false, and_true, true_and, and_false, false_and, decide_true, decide_false, Bool.and_true, Bool.true_and, Bool.and_false, Bool.false_and, Bool.or_false, Bool.false_or, Bool.or_true, Bool.true_or, Bool.not_true, Bool.not_false, not_true_eq_false, not_false_eq_true, e8, r1, r4, e1, a1]
      · unfold tlK f_X9_town_b77
        by_cases c1 : s < tl
        · have e2 := hb.2 _ c1
          have e3 : ¬ T s = 59 := fun q => cc ⟨c1, q⟩
          simp (disch := omega) only [pn_lt, pn_ltM, pl_ofN, ↓pl_m1, pl_lit, fa_litL, pn_bs, ck_n, ckh_n, ck_t, ckh_t, nI_add, nI_clamp, nI_ltI, nI_leI, nI_eq, m1_eq, m1_eq2, m1_lt, m1_le, m1_lt2, m1_le2, m1_m1, nI_m1, nI_subn, gb_n, Nat.add_zero, Nat.zero_add, Nat.zero_or, Nat.or_zero, nle_f, nle_t, nlt_f, nlt_t, neq_f, neq_t, Bool.false_eq_true, eq_self, if_true, if_false, ite_true, ite_false, and_true, true_and, and_false, false_and, decide_true, decide_false, Bool.and_true, Bool.true_and, Bool.and_false, Bool.false_and, Bool.or_false, Bool.false_or, Bool.or_true, Bool.true_or, Bool.not_true, Bool.not_false, not_true_eq_false, not_false_eq_true, e9, s1, a2, s4, c1]
        · simp (disch := omega) only [pn_lt, pn_ltM, pl_ofN, ↓pl_m1, pl_lit, fa_litL, pn_bs, ck_n, ckh_n, ck_t, ckh_t, nI_add, nI_clamp, nI_ltI, nI_leI, nI_eq, m1_eq, m1_eq2, m1_lt, m1_le, m1_lt2, m1_le2, m1_m1, nI_m1, nI_subn, gb_n, Nat.add_zero, Nat.zero_add, Nat.zero_or, Nat.or_zero, nle_f, nle_t, nlt_f, nlt_t, neq_f, neq_t, Bool.false_eq_true, eq_self, if_true, if_false, ite_true, ite_false, and_true, true_and, and_false, false_and, decide_true, decide_false, Bool.and_true, Bool.true_and, Bool.and_false, Bool.false_and, Bool.or_false, Bool.false_or, Bool.or_true, Bool.true_or, Bool.not_true, Bool.not_false, not_true_eq_false, not_false_eq_true, e9, s1, a2, s4, c1]
  · refine ⟨fn, t, M8, M9, ?_, fun K => ?_, h, fr8_r _, fr9_r _, fun q => absurd q c⟩
    · unfold f_X3_readEnd
      simp (disch := omega) only [pn_lt, pn_ltM, pl_ofN, ↓pl_m1, pl_lit, fa_litL, pn_bs, ck_n, ckh_n, ck_t, ckh_t, nI_add, nI_clamp, nI_ltI, nI_leI, nI_eq, m1_eq, m1_eq2, m1_lt, m1_le, m1_lt2, m1_le2, m1_m1, nI_m1, nI_subn, gb_n, Nat.add_zero, Nat.zero_add, Nat.zero_or, Nat.or_zero, nle_f, nle_t, nlt_f, nlt_t, neq_f, neq_t, Bool.false_eq_true, eq_self, if_true, if_false, ite_true, ite_false, and_true, true_and, and_false, false_and, decide_true, decide_false, Bool.and_true, Bool.true_and, Bool.and_false, Bool.false_and, Bool.or_false, Bool.false_or, Bool.or_true, Bool.true_or, Bool.not_true, Bool.not_false, not_true_eq_false, not_false_eq_true, e8]
    · unfold tlK
      simp (disch := omega) only [pn_lt, pn_ltM, pl_ofN, ↓pl_m1, pl_lit, fa_litL, pn_bs, ck_n, ckh_n, ck_t, ckh_t, nI_add, nI_clamp, nI_ltI, nI_leI, nI_eq, m1_eq, m1_eq2, m1_lt, m1_le, m1_lt2, m1_le2, m1_m1, nI_m1, nI_subn, gb_n, Nat.add_zero, Nat.zero_add, Nat.zero_or, Nat.or_zero, nle_f, nle_t, nlt_f, nlt_t, neq_f, neq_t, Bool.false_eq_true, eq_self, if_true, if_false, ite_true, ite_false, and_true, true_and, and_false, false_and, decide_true, decide_false, Bool.and_true, Bool.true_and, Bool.and_false, Bool.false_and, Bool.or_false, Bool.false_or, Bool.or_true, Bool.true_or, Bool.not_true, Bool.not_false, not_true_eq_false, not_false_eq_true, e9]
end EV
