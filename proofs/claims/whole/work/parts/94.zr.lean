/-! the two readers, step by step -/
def zR (T : Nat → Nat) (tl : Nat) (M8 M9 : gM) (fn t : Nat) : Prop :=
  xT8 T tl M8 ∧ xT9 T tl M9 ∧ fn ≤ 4 ∧ M8 25 4 = nI fn ∧ M9 95 18 = nI fn ∧ M8 25 5 = M9 95 19 ∧ t ≤ tl ∧ M8 25 2 = nI t ∧ (fn = 0 → M9 95 15 = nI t ∧ M8 25 3 = M9 95 16)
def fr8 (M M' : gM) : Prop := ∀ k, k ≠ 25 → M' k = M k
def fr9 (M M' : gM) : Prop := (∀ k, k ≠ 95 → M' k = M k) ∧ ∀ j, (j < 15 ∨ 19 < j) → M' 95 j = M 95 j
theorem fr8_t {A B C : gM} (h1 : fr8 A B) (h2 : fr8 B C) : fr8 A C := fun k hk => (h2 k hk).trans (h1 k hk)
theorem fr9_t {A B C : gM} (h1 : fr9 A B) (h2 : fr9 B C) : fr9 A C := ⟨fun k hk => (h2.1 k hk).trans (h1.1 k hk), fun j hj => (h2.2 j hj).trans (h1.2 j hj)⟩
theorem fr8_r (A : gM) : fr8 A A := fun _ _ => rfl
theorem fr9_r (A : gM) : fr9 A A := ⟨fun _ _ => rfl, fun _ _ => rfl⟩
section EV
variable {T : Nat → Nat} {tl F : Nat} {M8 M9 : gM}
theorem xT9_fr9 {A B : gM} (h : xT9 T tl A) (f : fr9 A B) : xT9 T tl B := xT9_95 h f.1 (fun j hj => f.2 j (.inl hj))
theorem nf_le (s e v : Nat) (a : Int32) : nfN s e v a ≤ 4 := by
  unfold nfN
  split
  · omega
  · split <;> omega
theorem z_num (hF : 4000 ≤ F) (hb : xTb T tl) {fn t : Nat} (h : zR T tl M8 M9 fn t) (a : Int32) : ∃ fn' t' v8 v9 A8 A9, f_X3_readNumber F a M8 = some (v8, A8) ∧ f_X9_takeNumber F (nI 0) a M9 = some (v9, A9) ∧ zR T tl A8 A9 fn' t' ∧ fr8 M8 A8 ∧ fr9 M9 A9 ∧ (fn ≠ 0 → A8 = M8 ∧ A9 = M9 ∧ fn' = fn) ∧ (fn' = 0 → fn = 0 ∧ t ≤ t' ∧ ∃ v, v ≤ 999 ∧ v8 = nI v ∧ v9 = nI v ∧ nI v ≤ a) := by
  obtain ⟨h8, h9, h4, e8, e9, ep, ht, et, e0⟩ := id h
  by_cases c : fn = 0
  · subst c
    obtain ⟨et9, es⟩ := e0 rfl
    obtain ⟨v, A8, r1, r2, r3, r4, r5, r6, r7, r8⟩ := e3_readNumber hF hb h8 a ht et e8 rfl rfl
    obtain ⟨w, A9, s1, s2, s3, s4, s5, s6, s7, s8, s9⟩ := e9_takeNumber hF hb h9 a ht et9 e9 rfl rfl
    have hsl := sc_le (blB T) ht
    have hsg := sc_ge (blB T) ht
    have hel := sc_le (fiB T) hsl
    have heg := sc_ge (fiB T) hsl
    generalize sc (blB T) tl t = s at *
    generalize sc (fiB T) tl s = e at *
    have hnf : nfN s e v a = nfN s e w a := by
      unfold nfN
      by_cases c1 : e = s
      · rw [if_pos c1, if_pos c1]
      · rw [if_neg c1, if_neg c1]
        by_cases c2 : 3 < e - s
        · rw [if_pos (.inl c2), if_pos (.inl c2)]
        · rw [r8 (by omega), s9 (by omega)]
    refine ⟨nfN s e v a, e, nI v, nI w, A8, A9, r1, s1, ⟨xT8_25 h8 r2, xT9_95 h9 s2 (fun j hj => s3 j (.inl hj)), nf_le _ _ _ _, r5, by rw [s6, hnf], ?_, hel, r3, fun q => ⟨s4, by rw [r4, s5]⟩⟩, r2, ⟨s2, s3⟩, fun q => absurd rfl q, fun q => ⟨rfl, by omega, v, r7, rfl, ?_, ?_⟩⟩
    · rw [r6, s7, hnf, ep]
    · have q2 := q
      unfold nfN at q2
      by_cases c1 : e = s
      · rw [if_pos c1] at q2
        omega
      · rw [if_neg c1] at q2
        by_cases c2 : 3 < e - s ∨ ¬ nI v ≤ a
        · rw [if_pos c2] at q2
          omega
        · rw [not_or] at c2
          rw [r8 (by omega), s9 (by omega)]
    · unfold nfN at q
      by_cases c1 : e = s
      · rw [if_pos c1] at q
        omega
      · rw [if_neg c1] at q
        by_cases c2 : 3 < e - s ∨ ¬ nI v ≤ a
        · rw [if_pos c2] at q
          omega
        · rw [not_or] at c2
          exact Classical.not_not.mp c2.2
  · refine ⟨fn, t, nI 0, nI 0, M8, M9, ?_, ?_, h, fr8_r _, fr9_r _, fun _ => ⟨rfl, rfl, rfl⟩, fun q => absurd q c⟩
    · unfold f_X3_readNumber
      simp (disch := omega) only [pn_lt, pn_ltM, pl_ofN, ↓pl_m1, pl_lit, fa_litL, pn_bs, ck_n, ckh_n, ck_t, ckh_t, nI_add, nI_clamp, nI_ltI, nI_leI, nI_eq, m1_eq, m1_eq2, m1_lt, m1_le, m1_lt2, m1_le2, m1_m1, nI_m1, nI_subn, gb_n, Nat.add_zero, Nat.zero_add, Nat.zero_or, Nat.or_zero, nle_f, nle_t, nlt_f, nlt_t, neq_f, neq_t, Bool.false_eq_true, eq_self, if_true, if_false, ite_true, ite_false, and_true, true_and, and_false, false_and, decide_true, decide_false, Bool.and_true, Bool.true_and, Bool.and_false, Bool.false_and, Bool.or_false, Bool.false_or, Bool.or_true, Bool.true_or, Bool.not_true, Bool.not_false, not_true_eq_false, not_false_eq_true, e8]
    · unfold f_X9_takeNumber
      simp (disch := omega) only [pn_lt, pn_ltM, pl_ofN, ↓pl_m1, pl_lit, fa_litL, pn_bs, ck_n, ckh_n, ck_t, ckh_t, nI_add, nI_clamp, nI_ltI, nI_leI, nI_eq, m1_eq, m1_eq2, m1_lt, m1_le, m1_lt2, m1_le2, m1_m1, nI_m1, nI_subn, gb_n, Nat.add_zero, Nat.zero_add, Nat.zero_or, Nat.or_zero, nle_f, nle_t, nlt_f, nlt_t, neq_f, neq_t, Bool.false_eq_true, eq_self, if_true, if_false, ite_true, ite_false, and_true, true_and, and_false, false_and, decide_true, decide_false, Bool.and_true, Bool.true_and, Bool.and_false, Bool.false_and, Bool.or_false, Bool.false_or, Bool.or_true, Bool.true_or, Bool.not_true, Bool.not_false, not_true_eq_false, not_false_eq_true, e9]
/-- a fault told by both -/
theorem z_fail {fn t num : Nat} (h : zR T tl M8 M9 fn t) (h1 : 1 ≤ num) (h4 : num ≤ 4) {w8 w9 : Int32} (hw : fn = 0 → w8 = w9) : ∃ fn' A8 A9, f_X3_fail (nI num) w8 M8 = some A8 ∧ f_X9_want (nI 0) (nI num) w9 M9 = some (nI 0, A9) ∧ zR T tl A8 A9 fn' t ∧ fr8 M8 A8 ∧ fr9 M9 A9 ∧ fn' ≠ 0 ∧ A8 25 3 = M8 25 3 ∧ A9 95 16 = M9 95 16 := by
  obtain ⟨h8, h9, h4', e8, e9, ep, ht, et, e0⟩ := id h
  by_cases c : fn = 0
  · subst c
    have f8 : fr8 M8 (gst (gst M8 25 4 (nI num)) 25 5 w8) := fun k hk => by rw [gst_ne _ _ _ _ hk, gst_ne _ _ _ _ hk]
    have f9 : fr9 M9 (gst (gst M9 95 18 (nI num)) 95 19 w9) := ⟨fun k hk => by rw [gst_ne _ _ _ _ hk, gst_ne _ _ _ _ hk], fun j hj => by rw [gst_v, gst_v, if_neg (by omega), if_neg (by omega)]⟩
    refine ⟨num, gst (gst M8 25 4 (nI num)) 25 5 w8, gst (gst M9 95 18 (nI num)) 95 19 w9, ?_, e9_want_0 e9 h1 h4, ⟨xT8_25 h8 f8, xT9_fr9 h9 f9, h4, ?_, ?_, ?_, ht, ?_, fun q => by omega⟩, f8, f9, by omega, ?_, ?_⟩
    · unfold f_X3_fail
      simp (disch := omega) only [pn_lt, pn_ltM, pl_ofN, ↓pl_m1, pl_lit, fa_litL, pn_bs, ck_n, ckh_n, ck_t, ckh_t, nI_add, nI_clamp, nI_ltI, nI_leI, nI_eq, m1_eq, m1_eq2, m1_lt, m1_le, m1_lt2, m1_le2, m1_m1, nI_m1, nI_subn, gb_n, Nat.add_zero, Nat.zero_add, Nat.zero_or, Nat.or_zero, nle_f, nle_t, nlt_f, nlt_t, neq_f, neq_t, Bool.false_eq_true, eq_self, if_true, if_false, ite_true, ite_false, and_true, true_and, and_false, false_and, decide_true, decide_false, Bool.and_true, Bool.true_and, Bool.and_false, Bool.false_and, Bool.or_false, Bool.false_or, Bool.or_true, Bool.true_or, Bool.not_true, Bool.not_false, not_true_eq_false, not_false_eq_true, e8]
    · simp (disch := omega) only [pn_lt, pn_ltM, pl_ofN, ↓pl_m1, pl_lit, fa_litL, pn_bs, ck_n, ckh_n, ck_t, ckh_t, nI_add, nI_clamp, nI_ltI, nI_leI, nI_eq, m1_eq, m1_eq2, m1_lt, m1_le, m1_lt2, m1_le2, m1_m1, nI_m1, nI_subn, gb_n, Nat.add_zero, Nat.zero_add, Nat.zero_or, Nat.or_zero, nle_f, nle_t, nlt_f, nlt_t, neq_f, neq_t, Bool.false_eq_true, eq_self, if_true, if_false, ite_true, ite_false, and_true, true_and, and_false, false_and, decide_true, decide_false, Bool.and_true, Bool.true_and, Bool.and_false, Bool.false_and, Bool.or_false, Bool.false_or, Bool.or_true, Bool.true_or, Bool.not_true, Bool.not_false, not_true_eq_false, not_false_eq_true, gst_v]
    · simp (disch := omega) only [pn_lt, pn_ltM, pl_ofN, ↓pl_m1, pl_lit, fa_litL, pn_bs, ck_n, ckh_n, ck_t, ckh_t, nI_add, nI_clamp, nI_ltI, nI_leI, nI_eq, m1_eq, m1_eq2, m1_lt, m1_le, m1_lt2, m1_le2, m1_m1, nI_m1, nI_subn, gb_n, Nat.add_zero, Nat.zero_add, Nat.zero_or, Nat.or_zero, nle_f, nle_t, nlt_f, nlt_t, neq_f, neq_t, Bool.false_eq_true, eq_self, if_true, if_false, ite_true, ite_false, and_true, true_and, and_false, false_and, decide_true, decide_false, Bool.and_true, Bool.true_and, Bool.and_false, Bool.false_and, Bool.or_false, Bool.false_or, Bool.or_true, Bool.true_or, Bool.not_true, Bool.not_false, not_true_eq_false, not_false_eq_true, gst_v]
    · rw [gst_v, if_pos ⟨rfl, rfl⟩, gst_v, if_pos ⟨rfl, rfl⟩, hw rfl]
    · simp (disch := omega) only [pn_lt, pn_ltM, pl_ofN, ↓pl_m1, pl_lit, fa_litL, pn_bs, ck_n, ckh_n, ck_t, ckh_t, nI_add, nI_clamp, nI_ltI, nI_leI, nI_eq, m1_eq, m1_eq2, m1_lt, m1_le, m1_lt2, m1_le2, m1_m1, nI_m1, nI_subn, gb_n, Nat.add_zero, Nat.zero_add, Nat.zero_or, Nat.or_zero, nle_f, nle_t, nlt_f, nlt_t, neq_f, neq_t, Bool.false_eq_true, eq_self, if_true, if_false, ite_true, ite_false, and_true, true_and, and_false, false_and, decide_true, decide_false, Bool.and_true, Bool.true_and, Bool.and_false, Bool.false_and, Bool.or_false, Bool.false_or, Bool.or_true, Bool.true_or, Bool.not_true, Bool.not_false, not_true_eq_false, not_false_eq_true, gst_v, et]
    · simp (disch := omega) only [pn_lt, pn_ltM, pl_ofN, ↓pl_m1, pl_lit, fa_litL, pn_bs, ck_n, ckh_n, ck_t, ckh_t, nI_add, nI_clamp, nI_ltI, nI_leI, nI_eq, m1_eq, m1_eq2, m1_lt, m1_le, m1_lt2, m1_le2, m1_m1, nI_m1, nI_subn, gb_n, Nat.add_zero, Nat.zero_add, Nat.zero_or, Nat.or_zero, nle_f, nle_t, nlt_f, nlt_t, neq_f, neq_t, Bool.false_eq_true, eq_self, if_true, if_false, ite_true, ite_false, and_true, true_and, and_false, false_and, decide_true, decide_false, Bool.and_true, Bool.true_and, Bool.and_false, Bool.false_and, Bool.or_false, Bool.false_or, Bool.or_true, Bool.true_or, Bool.not_true, Bool.not_false, not_true_eq_false, not_false_eq_true, gst_v]
    · simp (disch := omega) only [pn_lt, pn_ltM, pl_ofN, ↓pl_m1, pl_lit, fa_litL, pn_bs, ck_n, ckh_n, ck_t, ckh_t, nI_add, nI_clamp, nI_ltI, nI_leI, nI_eq, m1_eq, m1_eq2, m1_lt, m1_le, m1_lt2, m1_le2, m1_m1, nI_m1, nI_subn, gb_n, Nat.add_zero, Nat.zero_add, Nat.zero_or, Nat.or_zero, nle_f, nle_t, nlt_f, nlt_t, neq_f, neq_t, Bool.false_eq_true, eq_self, if_true, if_false, ite_true, ite_false, and_true, true_and, and_false, false_and, decide_true, decide_false, Bool.and_true, Bool.true_and, Bool.and_false, Bool.false_and, Bool.or_false, Bool.false_or, Bool.or_true, Bool.true_or, Bool.not_true, Bool.not_false, not_true_eq_false, not_false_eq_true, gst_v]
  · refine ⟨fn, M8, M9, ?_, e9_want_f e9 (by omega) h4', h, fr8_r _, fr9_r _, c, rfl, rfl⟩
    unfold f_X3_fail
    simp (disch := omega) only [pn_lt, pn_ltM, pl_ofN, ↓pl_m1, pl_lit, fa_litL, pn_bs, ck_n, ckh_n, ck_t, ckh_t, nI_add, nI_clamp, nI_ltI, nI_leI, nI_eq, m1_eq, m1_eq2, m1_lt, m1_le, m1_lt2, m1_le2, m1_m1, nI_m1, nI_subn, gb_n, Nat.add_zero, Nat.zero_add, Nat.zero_or, Nat.or_zero, nle_f, nle_t, nlt_f, nlt_t, neq_f, neq_t, Bool.false_eq_true, eq_self, if_true, if_false, ite_true, ite_false, and_true, true_and, and_false, false_and, decide_true, decide_false, Bool.and_true, Bool.true_and, Bool.and_false, Bool.false_and, Bool.or_false, Bool.false_or, Bool.or_true, Bool.true_or, Bool.not_true, Bool.not_false, not_true_eq_false, not_false_eq_true, e8]
theorem z_fail8 {fn t : Nat} (h : zR T tl M8 M9 fn t) (c : fn ≠ 0) (n w : Int32) : f_X3_fail n w M8 = some M8 := by
  obtain ⟨h8, h9, h4', e8, e9, ep, ht, et, e0⟩ := id h
  unfold f_X3_fail
  simp (disch := omega) only [pn_lt, pn_ltM, pl_ofN, ↓pl_m1, pl_lit, fa_litL, pn_bs, ck_n, ckh_n, ck_t, ckh_t, nI_add, nI_clamp, nI_ltI, nI_leI, nI_eq, m1_eq, m1_eq2, m1_lt, m1_le, m1_lt2, m1_le2, m1_m1, nI_m1, nI_subn, gb_n, Nat.add_zero, Nat.zero_add, Nat.zero_or, Nat.or_zero, nle_f, nle_t, nlt_f, nlt_t, neq_f, neq_t, Bool.false_eq_true, eq_self, if_true, if_false, ite_true, ite_false, and_true, true_and, and_false, false_and, decide_true, decide_false, Bool.and_true, Bool.true_and, Bool.and_false, Bool.false_and, Bool.or_false, Bool.false_or, Bool.or_true, Bool.true_or, Bool.not_true, Bool.not_false, not_true_eq_false, not_false_eq_true, e8]
/-- the word that begins at t -/
theorem z_word (hF : 4000 ≤ F) (hb : xTb T tl) {t : Nat} (h : zR T tl M8 M9 0 t) : ∃ s e A8 A9, f_X3_readWord F M8 = some A8 ∧ f_X9_takeWord F M9 = some A9 ∧ zR T tl A8 A9 0 e ∧ fr8 M8 A8 ∧ fr9 M9 A9 ∧ t ≤ s ∧ s ≤ e ∧ A8 25 3 = nI s ∧ A9 95 16 = nI s ∧ A9 95 17 = nI (e - s) := by
  obtain ⟨h8, h9, h4, e8, e9, ep, ht, et, e0⟩ := id h
  obtain ⟨et9, es⟩ := e0 rfl
  obtain ⟨A8, r1, r2, r3, r4, r5⟩ := e3_readWord hF hb h8 ht et
  obtain ⟨A9, s1, s2, s3, s4, s5, s6⟩ := e9_takeWord hF hb h9 ht et9
  have hsl := sc_le (blB T) ht
  have hsg := sc_ge (blB T) ht
  have hel := sc_le (leB T) hsl
  have heg := sc_ge (leB T) hsl
  refine ⟨_, _, A8, A9, r1, s1, ⟨xT8_25 h8 r2, xT9_95 h9 s2 (fun j hj => s3 j (by omega) (by omega) (by omega)), by omega, by rw [r3 _ (by omega) (by omega), e8], by rw [s3 _ (by omega) (by omega) (by omega), e9], by rw [r3 _ (by omega) (by omega), s3 _ (by omega) (by omega) (by omega), ep], hel, r5, fun _ => ⟨s5, by rw [r4, s4]⟩⟩, r2, ⟨s2, fun j hj => s3 j (by omega) (by omega) (by omega)⟩, hsg, heg, r4, s4, s6⟩
end EV
