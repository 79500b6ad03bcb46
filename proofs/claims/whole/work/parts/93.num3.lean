/-! numbers of the text: the model -/
section EV
variable {T : Nat → Nat} {tl F : Nat} {M : gM}
theorem e9_want_0 {num : Nat} {w : Int32} (h : M 95 18 = nI 0) (hn : 1 ≤ num) (hn4 : num ≤ 4) : f_X9_want (nI 0) (nI num) w M = some (nI 0, gst (gst M 95 18 (nI num)) 95 19 w) := by
  unfold f_X9_want f_X9_want_b21
  simp (disch := omega) only [pn_lt, pn_ltM, pl_ofN, ↓pl_m1, pl_lit, fa_litL, pn_bs, ck_n, ckh_n, ck_t, ckh_t, nI_add, nI_clamp, nI_ltI, nI_leI, nI_eq, m1_eq, m1_eq2, m1_lt, m1_le, m1_lt2, m1_le2, m1_m1, nI_m1, nI_subn, gb_n, Nat.add_zero, Nat.zero_add, Nat.zero_or, Nat.or_zero, nle_f, nle_t, nlt_f, nlt_t, neq_f, neq_t, Bool.false_eq_true, eq_self, if_true, if_false, ite_true, ite_false, and_true, true_and, and_false, false_and, decide_true, decide_false, Bool.and_true, Bool.true_and, Bool.and_false, Bool.false_and, Bool.or_false, Bool.false_or, Bool.or_true, Bool.true_or, Bool.not_true, Bool.not_false, not_true_eq_false, not_false_eq_true, h, gst_v]
theorem e9_want_1 {w n : Int32} (h : M 95 18 = nI 0) : f_X9_want (nI 1) n w M = some (nI 1, M) := by
  unfold f_X9_want f_X9_want_b21
  simp (disch := omega) only [pn_lt, pn_ltM, pl_ofN, ↓pl_m1, pl_lit, fa_litL, pn_bs, ck_n, ckh_n, ck_t, ckh_t, nI_add, nI_clamp, nI_ltI, nI_leI, nI_eq, m1_eq, m1_eq2, m1_lt, m1_le, m1_lt2, m1_le2, m1_m1, nI_m1, nI_subn, gb_n, Nat.add_zero, Nat.zero_add, Nat.zero_or, Nat.or_zero, nle_f, nle_t, nlt_f, nlt_t, neq_f, neq_t, Bool.false_eq_true, eq_self, if_true, if_false, ite_true, ite_false, and_true, true_and, and_false, false_and, decide_true, decide_false, Bool.and_true, Bool.true_and, Bool.and_false, Bool.false_and, Bool.or_false, Bool.false_or, Bool.or_true, Bool.true_or, Bool.not_true, Bool.not_false, not_true_eq_false, not_false_eq_true, h]
theorem e9_want_f {g w n : Int32} {fn : Nat} (h : M 95 18 = nI fn) (h1 : 1 ≤ fn) (h4 : fn ≤ 4) : f_X9_want g n w M = some (nI 0, M) := by
  unfold f_X9_want f_X9_want_b21
  by_cases c : g = nI 0
  · simp (disch := omega) only [pn_lt, pn_ltM, pl_ofN, ↓pl_m1, pl_lit, fa_litL, pn_bs, ck_n, ckh_n, ck_t, ckh_t, nI_add, nI_clamp, nI_ltI, nI_leI, nI_eq, m1_eq, m1_eq2, m1_lt, m1_le, m1_lt2, m1_le2, m1_m1, nI_m1, nI_subn, gb_n, Nat.add_zero, Nat.zero_add, Nat.zero_or, Nat.or_zero, nle_f, nle_t, nlt_f, nlt_t, neq_f, neq_t, Bool.false_eq_true, eq_self, if_true, if_false, ite_true, ite_false, and_true, true_and, and_false, false_and, decide_true, decide_false, Bool.and_true, Bool.true_and, Bool.and_false, Bool.false_and, Bool.or_false, Bool.false_or, Bool.or_true, Bool.true_or, Bool.not_true, Bool.not_false, not_true_eq_false, not_false_eq_true, h, c]
  · simp (disch := omega) only [pn_lt, pn_ltM, pl_ofN, ↓pl_m1, pl_lit, fa_litL, pn_bs, ck_n, ckh_n, ck_t, ckh_t, nI_add, nI_clamp, nI_ltI, nI_leI, nI_eq, m1_eq, m1_eq2, m1_lt, m1_le, m1_lt2, m1_le2, m1_m1, nI_m1, nI_subn, gb_n, Nat.add_zero, Nat.zero_add, Nat.zero_or, Nat.or_zero, nle_f, nle_t, nlt_f, nlt_t, neq_f, neq_t, Bool.false_eq_true, eq_self, if_true, if_false, ite_true, ite_false, and_true, true_and, and_false, false_and, decide_true, decide_false, Bool.and_true, Bool.true_and, Bool.and_false, Bool.false_and, Bool.or_false, Bool.false_or, Bool.or_true, Bool.true_or, Bool.not_true, Bool.not_false, not_true_eq_false, not_false_eq_true, h, c]
theorem e9_takeNumber (hF : 4000 ≤ F) (hb : xTb T tl) (h9 : xT9 T tl M) {t s e : Nat} (a : Int32) (ht : t ≤ tl) (hM : M 95 15 = nI t) (h4 : M 95 18 = nI 0) (hs : s = sc (blB T) tl t) (he : e = sc (fiB T) tl s) : ∃ v M', f_X9_takeNumber F (nI 0) a M = some (nI v, M') ∧ (∀ k, k ≠ 95 → M' k = M k) ∧ (∀ j, (j < 15 ∨ 19 < j) → M' 95 j = M 95 j) ∧ M' 95 15 = nI e ∧ M' 95 16 = nI s ∧ M' 95 18 = nI (nfN s e v a) ∧ M' 95 19 = (if nfN s e v a = 0 then M 95 19 else nI s) ∧ v ≤ 999999 ∧ (e - s ≤ 3 → v = vl T s (e - s)) := by
  have h400 := hb.1
  obtain ⟨M1, r1, r2, r3, r4⟩ := e9_here hF hb h9 ht hM
  have hst := sc_le (blB T) ht
  rw [← hs] at hst r1 r4
  have hge := sc_ge (fiB T) hst
  have hle := sc_le (fiB T) hst
  have hin : ∀ j, s ≤ j → j < e → fiB T j = true := fun j q1 q2 => sc_in hst q1 (by rw [← he]; exact q2)
  have h19 : gst M1 95 16 (nI s) 95 18 = nI 0 := by rw [gst_v, if_neg (by omega), r3 _ (by omega), h4]
  by_cases hes : e = s
  · -- no figure
    refine ⟨0, gst (gst (gst M1 95 16 (nI s)) 95 18 (nI 1)) 95 19 (nI s), ?_, fun k hk => by rw [gst_ne _ _ _ _ hk, gst_ne _ _ _ _ hk, gst_ne _ _ _ _ hk, r2 k hk], fun j hj => by rw [gst_v, gst_v, gst_v, if_neg (by omega), if_neg (by omega), if_neg (by omega), r3 j (by omega)], ?_, ?_, ?_, ?_, by omega, fun _ => by rw [hes, Nat.sub_self]; rfl⟩
    · unfold f_X9_takeNumber
      have e15 : gst M1 95 16 (nI s) 95 15 = nI s := by rw [gst_v, if_neg (by omega), r4]
      have ew := e9_want_0 (M := gst M1 95 16 (nI s)) (num := 1) (w := nI s) h19 (by omega) (by omega)
      have ein : f_X9_in (if s < tl then nI (T s) else m1).toInt64 (48 : Int64) (57 : Int64) (gst M1 95 16 (nI s)) = some (nI 0) := by
        by_cases c : s < tl
        · have e2 : fiB T s = false := by
            have := sc_end (P := fiB T) hst (by rw [← he, hes]; exact c)
            rw [← he, hes] at this
            exact this
          have e3 := fiB_f e2
          have e4 := hb.2 _ c
          have e6 : (48 ≤ T s ∧ T s ≤ 57) = False := eq_false (by omega)
          simp (disch := omega) only [pn_lt, pn_ltM, pl_ofN, ↓pl_m1, pl_lit, fa_litL, pn_bs, ck_n, ckh_n, ck_t, ckh_t, nI_add, nI_clamp, nI_ltI, nI_leI, nI_eq, m1_eq, m1_eq2, m1_lt, m1_le, m1_lt2, m1_le2, m1_m1, nI_m1, nI_subn, gb_n, Nat.add_zero, Nat.zero_add, Nat.zero_or, Nat.or_zero, nle_f, nle_t, nlt_f, nlt_t, neq_f, neq_t, Bool.false_eq_true, eq_self, if_true, if_false, ite_true, ite_false, and_true, true_and, and_false, false_and, decide_true, decide_false, Bool.and_true, Bool.true_and, Bool.and_false, Bool.false_and, Bool.or_false, Bool.false_or, Bool.or_true, Bool.true_or, Bool.not_true, Bool.not_false, not_true_eq_false, not_false_eq_true, c, e9_inL, e6]
        · simp (disch := omega) only [pn_lt, pn_ltM, pl_ofN, ↓pl_m1, pl_lit, fa_litL, pn_bs, ck_n, ckh_n, ck_t, ckh_t, nI_add, nI_clamp, nI_ltI, nI_leI, nI_eq, m1_eq, m1_eq2, m1_lt, m1_le, m1_lt2, m1_le2, m1_m1, nI_m1, nI_subn, gb_n, Nat.add_zero, Nat.zero_add, Nat.zero_or, Nat.or_zero, nle_f, nle_t, nlt_f, nlt_t, neq_f, neq_t, Bool.false_eq_true, eq_self, if_true, if_false, ite_true, ite_false, and_true, true_and, and_false, false_and, decide_true, decide_false, Bool.and_true, Bool.true_and, Bool.and_false, Bool.false_and, Bool.or_false, Bool.false_or, Bool.or_true, Bool.true_or, Bool.not_true, Bool.not_false, not_true_eq_false, not_false_eq_true, c, e9_inL]
      rw [show (0 : Int32) = nI 0 from rfl, h4, if_pos (by rw [nI_leI (by omega) (by omega)]; exact Nat.le_refl _), r1, pn_bs, pn_lt, pn_ltM]
      dsimp only
      rw [r4, ein, pn_bs, e15, show (1 : Int32) = nI 1 from rfl, ew, pn_bs, if_pos rfl]
    · simp (disch := omega) only [pn_lt, pn_ltM, pl_ofN, ↓pl_m1, pl_lit, fa_litL, pn_bs, ck_n, ckh_n, ck_t, ckh_t, nI_add, nI_clamp, nI_ltI, nI_leI, nI_eq, m1_eq, m1_eq2, m1_lt, m1_le, m1_lt2, m1_le2, m1_m1, nI_m1, nI_subn, gb_n, Nat.add_zero, Nat.zero_add, Nat.zero_or, Nat.or_zero, nle_f, nle_t, nlt_f, nlt_t, neq_f, neq_t, Bool.false_eq_true, eq_self, if_true, if_false, ite_true, ite_false, and_true, true_and, and_false, false_and, decide_true, decide_false, Bool.and_true, Bool.true_and, Bool.and_false, Bool.false_and, Bool.or_false, Bool.false_or, Bool.or_true, Bool.true_or, Bool.not_true, Bool.not_false, not_true_eq_false, not_false_eq_true, gst_v, r4, hes]
    · simp (disch := omega) only [pn_lt, pn_ltM, pl_ofN, ↓pl_m1, pl_lit, fa_litL, pn_bs, ck_n, ckh_n, ck_t, ckh_t, nI_add, nI_clamp, nI_ltI, nI_leI, nI_eq, m1_eq, m1_eq2, m1_lt, m1_le, m1_lt2, m1_le2, m1_m1, nI_m1, nI_subn, gb_n, Nat.add_zero, Nat.zero_add, Nat.zero_or, Nat.or_zero, nle_f, nle_t, nlt_f, nlt_t, neq_f, neq_t, Bool.false_eq_true, eq_self, if_true, if_false, ite_true, ite_false, and_true, true_and, and_false, false_and, decide_true, decide_false, Bool.and_true, Bool.true_and, Bool.and_false, Bool.false_and, Bool.or_false, Bool.false_or, Bool.or_true, Bool.true_or, Bool.not_true, Bool.not_false, not_true_eq_false, not_false_eq_true, gst_v]
    · unfold nfN
      simp (disch := omega) only [pn_lt, pn_ltM, pl_ofN, ↓pl_m1, pl_lit, fa_litL, pn_bs, ck_n, ckh_n, ck_t, ckh_t, nI_add, nI_clamp, nI_ltI, nI_leI, nI_eq, m1_eq, m1_eq2, m1_lt, m1_le, m1_lt2, m1_le2, m1_m1, nI_m1, nI_subn, gb_n, Nat.add_zero, Nat.zero_add, Nat.zero_or, Nat.or_zero, nle_f, nle_t, nlt_f, nlt_t, neq_f, neq_t, Bool.false_eq_true, eq_self, if_true, if_false, ite_true, ite_false, and_true, true_and, and_false, false_and, decide_true, decide_false, Bool.and_true, Bool.true_and, Bool.and_false, Bool.false_and, Bool.or_false, Bool.false_or, Bool.or_true, Bool.true_or, Bool.not_true, Bool.not_false, not_true_eq_false, not_false_eq_true, gst_v, hes]
    · unfold nfN
      simp (disch := omega) only [pn_lt, pn_ltM, pl_ofN, ↓pl_m1, pl_lit, fa_litL, pn_bs, ck_n, ckh_n, ck_t, ckh_t, nI_add, nI_clamp, nI_ltI, nI_leI, nI_eq, m1_eq, m1_eq2, m1_lt, m1_le, m1_lt2, m1_le2, m1_m1, nI_m1, nI_subn, gb_n, Nat.add_zero, Nat.zero_add, Nat.zero_or, Nat.or_zero, nle_f, nle_t, nlt_f, nlt_t, neq_f, neq_t, Bool.false_eq_true, eq_self, if_true, if_false, ite_true, ite_false, and_true, true_and, and_false, false_and, decide_true, decide_false, Bool.and_true, Bool.true_and, Bool.and_false, Bool.false_and, Bool.or_false, Bool.false_or, Bool.or_true, Bool.true_or, Bool.not_true, Bool.not_false, not_true_eq_false, not_false_eq_true, gst_v, hes]
  · have hlt : s < e := by omega
    have hstl : s < tl := by omega
    have hdig := fiB_t (hin s (Nat.le_refl _) hlt)
    obtain ⟨⟨x, N⟩, n', ⟨g1, g2, g3, g5, g6, g7, g8⟩, h7⟩ := sc_inv (fiB T) tl (fun n (y : Int32 × gM) => f_X9_takeNumber_h50 F (nI 0) a n y.1 y.2) (fun t' y => (∀ k, k ≠ 95 → y.2 k = M k) ∧ (∀ j, j ≠ 15 → j ≠ 16 → y.2 95 j = M 95 j) ∧ y.2 95 16 = nI s ∧ y.2 95 15 = nI t' ∧ (∃ v, y.1 = nI v ∧ v ≤ 999999 ∧ (t' - s ≤ 3 → v = vl T s (t' - s))) ∧ s ≤ t' ∧ sc (fiB T) tl t' = e) (by
      rintro n t' ⟨x, N⟩ ht' hp ⟨q1, q2, q3, q5, ⟨v, q6, q9, q10⟩, q7, q8⟩
      dsimp only at q1 q2 q3 q5 q6
      have e0 := xT9_95 h9 q1 (fun j hj => q2 j (by omega) (by omega))
      have e1 := e0.2 t' ht'
      have e11 := e0.1
      have e2 := fiB_t hp
      rw [sc_step ht' hp] at q8
      have hte : t' + 1 ≤ e := by
        rw [← q8]
        exact sc_ge _ (by omega)
      have hstep : ∃ v2, f_X9_takeNumber_h50_b F (nI 0) a (f_X9_takeNumber_h50 F (nI 0) a n) (nI v) N = f_X9_takeNumber_h50 F (nI 0) a n (nI v2) (gst N 95 15 (nI (t' + 1))) ∧ v2 ≤ 999999 ∧ (t' + 1 - s ≤ 3 → v2 = vl T s (t' + 1 - s)) := by
        unfold f_X9_takeNumber_h50_b f_X9_takeNumber_b113
        by_cases c : v ≤ 99999
        · refine ⟨v * 10 + (T t' - 48), ?_, by omega, fun q => ?_⟩
          · have e6 : nI 10 * nI v = nI (v * 10) := by rw [pk_mul, Nat.mul_comm]
            have e7 : v * 10 + T t' - 48 = v * 10 + (T t' - 48) := by omega
            simp (disch := omega) only [pn_lt, pn_ltM, pl_ofN, ↓pl_m1, pl_lit, fa_litL, pn_bs, ck_n, ckh_n, ck_t, ckh_t, nI_add, nI_clamp, nI_ltI, nI_leI, nI_eq, m1_eq, m1_eq2, m1_lt, m1_le, m1_lt2, m1_le2, m1_m1, nI_m1, nI_subn, gb_n, Nat.add_zero, Nat.zero_add, Nat.zero_or, Nat.or_zero, nle_f, nle_t, nlt_f, nlt_t, neq_f, neq_t, Bool.false_eq_true, eq_self, if_true, if_false, ite_true, ite_false, and_true, true_and, and_false, false_and, decide_true, decide_false, Bool.and_true, Bool.true_and, Bool.and_false, Bool.false_and, Bool.or_false, Bool.false_or, Bool.or_true, Bool.true_or, Bool.not_true, Bool.not_false, not_true_eq_false, not_false_eq_true, e11, e1, q5, e9_inL, e6, e7]
          · have e4 : t' + 1 - s = t' - s + 1 := by omega
            rw [e4, q10 (by omega)]
            show _ = vl T s (t' - s) * 10 + (T (s + (t' - s)) - 48)
            rw [show s + (t' - s) = t' by omega]
        · refine ⟨v, ?_, q9, fun q => ?_⟩
          · simp (disch := omega) only [pn_lt, pn_ltM, pl_ofN, ↓pl_m1, pl_lit, fa_litL, pn_bs, ck_n, ckh_n, ck_t, ckh_t, nI_add, nI_clamp, nI_ltI, nI_leI, nI_eq, m1_eq, m1_eq2, m1_lt, m1_le, m1_lt2, m1_le2, m1_m1, nI_m1, nI_subn, gb_n, Nat.add_zero, Nat.zero_add, Nat.zero_or, Nat.or_zero, nle_f, nle_t, nlt_f, nlt_t, neq_f, neq_t, Bool.false_eq_true, eq_self, if_true, if_false, ite_true, ite_false, and_true, true_and, and_false, false_and, decide_true, decide_false, Bool.and_true, Bool.true_and, Bool.and_false, Bool.false_and, Bool.or_false, Bool.false_or, Bool.or_true, Bool.true_or, Bool.not_true, Bool.not_false, not_true_eq_false, not_false_eq_true, e11, e1, q5, e9_inL]
          · exfalso
            have e4 := q10 (by omega)
            have e5 := vl_999 hin (m := t' - s) (by omega) (by omega)
            omega
      obtain ⟨v2, s1, s2, s3⟩ := hstep
      refine ⟨(nI v2, gst N 95 15 (nI (t' + 1))), ⟨fun k hk => ?_, fun j hj hj3 => ?_, ?_, ?_, ⟨v2, rfl, s2, s3⟩, by omega, q8⟩, ?_⟩
      · show gst N 95 15 (nI (t' + 1)) k = M k
        rw [gst_ne _ _ _ _ hk, q1 k hk]
      · show gst N 95 15 (nI (t' + 1)) 95 j = M 95 j
        rw [gst_v, if_neg (by omega), q2 j hj hj3]
      · show gst N 95 15 (nI (t' + 1)) 95 16 = nI s
        rw [gst_v, if_neg (by omega), q3]
      · show gst N 95 15 (nI (t' + 1)) 95 15 = nI (t' + 1)
        rw [gst_v, if_pos ⟨rfl, rfl⟩]
      · show f_X9_takeNumber_h50_b _ _ _ _ _ _ = _
        dsimp only
        rw [q6, s1]) (tl - s) s (nI 0, gst M1 95 16 (nI s)) F rfl hst (by omega) ⟨fun k hk => (gst_ne _ _ _ _ hk).trans (by rw [r2 k hk]), fun j h2 h3 => (gst_v M1 95 16 (nI s) 95 j).trans (by rw [if_neg (by omega), r3 j h2]), (gst_v M1 95 16 (nI s) 95 16).trans (if_pos ⟨rfl, rfl⟩), (gst_v M1 95 16 (nI s) 95 15).trans (by rw [if_neg (by omega), r4]), ⟨0, rfl, by omega, fun _ => by rw [Nat.sub_self]; rfl⟩, Nat.le_refl _, he.symm⟩
    rw [← he] at g5 g6 g7 g8 hge hle
    dsimp only at g1 g2 g3 g5 g6
    obtain ⟨v, g6, g9, g10⟩ := g6
    have e0 := xT9_95 h9 g1 (fun j hj => g2 j (by omega) (by omega))
    have e11 := e0.1
    have g4 : N 95 18 = nI 0 := by rw [g2 _ (by omega) (by omega), h4]
    have hb97 : f_X9_takeNumber_h50 F (nI 0) a (n' + 1) x N = f_X9_takeNumber_b128 F (nI 0) a x N := by
      show f_X9_takeNumber_h50_b _ _ _ _ _ _ = _
      unfold f_X9_takeNumber_h50_b
      by_cases c : e < tl
      · have e1 := e0.2 e c
        have e2 : fiB T e = false := by rw [he]; exact sc_end hst (by rw [← he]; exact c)
        have e3 := fiB_f e2
        have e4 := hb.2 _ c
        have e6 : (48 ≤ T e ∧ T e ≤ 57) = False := eq_false (by omega)
        simp (disch := omega) only [pn_lt, pn_ltM, pl_ofN, ↓pl_m1, pl_lit, fa_litL, pn_bs, ck_n, ckh_n, ck_t, ckh_t, nI_add, nI_clamp, nI_ltI, nI_leI, nI_eq, m1_eq, m1_eq2, m1_lt, m1_le, m1_lt2, m1_le2, m1_m1, nI_m1, nI_subn, gb_n, Nat.add_zero, Nat.zero_add, Nat.zero_or, Nat.or_zero, nle_f, nle_t, nlt_f, nlt_t, neq_f, neq_t, Bool.false_eq_true, eq_self, if_true, if_false, ite_true, ite_false, and_true, true_and, and_false, false_and, decide_true, decide_false, Bool.and_true, Bool.true_and, Bool.and_false, Bool.false_and, Bool.or_false, Bool.false_or, Bool.or_true, Bool.true_or, Bool.not_true, Bool.not_false, not_true_eq_false, not_false_eq_true, e11, e1, g5, e9_inL, e6]
      · simp (disch := omega) only [pn_lt, pn_ltM, pl_ofN, ↓pl_m1, pl_lit, fa_litL, pn_bs, ck_n, ckh_n, ck_t, ckh_t, nI_add, nI_clamp, nI_ltI, nI_leI, nI_eq, m1_eq, m1_eq2, m1_lt, m1_le, m1_lt2, m1_le2, m1_m1, nI_m1, nI_subn, gb_n, Nat.add_zero, Nat.zero_add, Nat.zero_or, Nat.or_zero, nle_f, nle_t, nlt_f, nlt_t, neq_f, neq_t, Bool.false_eq_true, eq_self, if_true, if_false, ite_true, ite_false, and_true, true_and, and_false, false_and, decide_true, decide_false, Bool.and_true, Bool.true_and, Bool.and_false, Bool.false_and, Bool.or_false, Bool.false_or, Bool.or_true, Bool.true_or, Bool.not_true, Bool.not_false, not_true_eq_false, not_false_eq_true, e11, g5]
    have hfin : ∃ M', f_X9_takeNumber_b128 F (nI 0) a x N = some (x, M') ∧ (∀ k, k ≠ 95 → M' k = N k) ∧ (∀ j, j ≠ 18 → j ≠ 19 → M' 95 j = N 95 j) ∧ M' 95 18 = nI (nfN s e v a) ∧ M' 95 19 = (if nfN s e v a = 0 then N 95 19 else nI s) := by
      unfold f_X9_takeNumber_b128 f_X9_takeNumber_b159 f_X9_takeNumber_b160 nfN
      rw [g6]
      have ew0 := e9_want_0 (M := N) (num := 2) (w := nI s) g4 (by omega) (by omega)
      have ew1 := e9_want_1 (M := N) (w := nI s) (n := nI 2) g4
      have fr : ∀ k, k ≠ 95 → gst (gst N 95 18 (nI 2)) 95 19 (nI s) k = N k := fun k hk => by rw [gst_ne _ _ _ _ hk, gst_ne _ _ _ _ hk]
      have fr2 : ∀ j, j ≠ 18 → j ≠ 19 → gst (gst N 95 18 (nI 2)) 95 19 (nI s) 95 j = N 95 j := fun j h1 h2 => by rw [gst_v, gst_v, if_neg (by omega), if_neg (by omega)]
      by_cases c2 : 3 < e - s
      · refine ⟨gst (gst N 95 18 (nI 2)) 95 19 (nI s), ?_, fr, fr2, ?_, ?_⟩
        · simp (disch := omega) only [pn_lt, pn_ltM, pl_ofN, ↓pl_m1, pl_lit, fa_litL, pn_bs, ck_n, ckh_n, ck_t, ckh_t, nI_add, nI_clamp, nI_ltI, nI_leI, nI_eq, m1_eq, m1_eq2, m1_lt, m1_le, m1_lt2, m1_le2, m1_m1, nI_m1, nI_subn, gb_n, Nat.add_zero, Nat.zero_add, Nat.zero_or, Nat.or_zero, nle_f, nle_t, nlt_f, nlt_t, neq_f, neq_t, Bool.false_eq_true, eq_self, if_true, if_false, ite_true, ite_false, and_true, true_and, and_false, false_and, decide_true, decide_false, Bool.and_true, Bool.true_and, Bool.and_false, Bool.false_and, Bool.or_false, Bool.false_or, Bool.or_true, Bool.true_or, Bool.not_true, Bool.not_false, not_true_eq_false, not_false_eq_true, g5, g3, ew0]
        · simp (disch := omega) only [pn_lt, pn_ltM, pl_ofN, ↓pl_m1, pl_lit, fa_litL, pn_bs, ck_n, ckh_n, ck_t, ckh_t, nI_add, nI_clamp, nI_ltI, nI_leI, nI_eq, m1_eq, m1_eq2, m1_lt, m1_le, m1_lt2, m1_le2, m1_m1, nI_m1, nI_subn, gb_n, Nat.add_zero, Nat.zero_add, Nat.zero_or, Nat.or_zero, nle_f, nle_t, nlt_f, nlt_t, neq_f, neq_t, Bool.false_eq_true, eq_self, if_true, if_false, ite_true, ite_false, and_true, true_and, and_false, false_and, decide_true, decide_false, Bool.and_true, Bool.true_and, Bool.and_false, Bool.false_and, Bool.or_false, Bool.false_or, Bool.or_true, Bool.true_or, Bool.not_true, Bool.not_false, not_true_eq_false, not_false_eq_true, gst_v, hes, c2, true_or]
        · simp (disch := omega) only [pn_lt, pn_ltM, pl_ofN, ↓pl_m1, pl_lit, fa_litL, pn_bs, ck_n, ckh_n, ck_t, ckh_t, nI_add, nI_clamp, nI_ltI, nI_leI, nI_eq, m1_eq, m1_eq2, m1_lt, m1_le, m1_lt2, m1_le2, m1_m1, nI_m1, nI_subn, gb_n, Nat.add_zero, Nat.zero_add, Nat.zero_or, Nat.or_zero, nle_f, nle_t, nlt_f, nlt_t, neq_f, neq_t, Bool.false_eq_true, eq_self, if_true, if_false, ite_true, ite_false, and_true, true_and, and_false, false_and, decide_true, decide_false, Bool.and_true, Bool.true_and, Bool.and_false, Bool.false_and, Bool.or_false, Bool.false_or, Bool.or_true, Bool.true_or, Bool.not_true, Bool.not_false, not_true_eq_false, not_false_eq_true, gst_v, hes, c2, true_or]
      · by_cases c3 : nI v ≤ a
        · refine ⟨N, ?_, fun k hk => rfl, fun _ _ _ => rfl, ?_, ?_⟩
          · simp (disch := omega) only [pn_lt, pn_ltM, pl_ofN, ↓pl_m1, pl_lit, fa_litL, pn_bs, ck_n, ckh_n, ck_t, ckh_t, nI_add, nI_clamp, nI_ltI, nI_leI, nI_eq, m1_eq, m1_eq2, m1_lt, m1_le, m1_lt2, m1_le2, m1_m1, nI_m1, nI_subn, gb_n, Nat.add_zero, Nat.zero_add, Nat.zero_or, Nat.or_zero, nle_f, nle_t, nlt_f, nlt_t, neq_f, neq_t, Bool.false_eq_true, eq_self, if_true, if_false, ite_true, ite_false, and_true, true_and, and_false, false_and, decide_true, decide_false, Bool.and_true, Bool.true_and, Bool.and_false, Bool.false_and, Bool.or_false, Bool.false_or, Bool.or_true, Bool.true_or, Bool.not_true, Bool.not_false, not_true_eq_false, not_false_eq_true, g5, g3, e9_in, c3, ew1]
          · simp (disch := omega) only [pn_lt, pn_ltM, pl_ofN, ↓pl_m1, pl_lit, fa_litL, pn_bs, ck_n, ckh_n, ck_t, ckh_t, nI_add, nI_clamp, nI_ltI, nI_leI, nI_eq, m1_eq, m1_eq2, m1_lt, m1_le, m1_lt2, m1_le2, m1_m1, nI_m1, nI_subn, gb_n, Nat.add_zero, Nat.zero_add, Nat.zero_or, Nat.or_zero, nle_f, nle_t, nlt_f, nlt_t, neq_f, neq_t, Bool.false_eq_true, eq_self, if_true, if_false, ite_true, ite_false, and_true, true_and, and_false, false_and, decide_true, decide_false, Bool.and_true, Bool.true_and, Bool.and_false, Bool.false_and, Bool.or_false, Bool.false_or, Bool.or_true, Bool.true_or, Bool.not_true, Bool.not_false, not_true_eq_false, not_false_eq_true, hes, c2, c3, or_self, g4]
          · simp (disch := omega) only [pn_lt, pn_ltM, pl_ofN, ↓pl_m1, pl_lit, fa_litL, pn_bs, ck_n, ckh_n, ck_t, ckh_t, nI_add, nI_clamp, nI_ltI, nI_leI, nI_eq, m1_eq, m1_eq2, m1_lt, m1_le, m1_lt2, m1_le2, m1_m1, nI_m1, nI_subn, gb_n, Nat.add_zero, Nat.zero_add, Nat.zero_or, Nat.or_zero, nle_f, nle_t, nlt_f, nlt_t, neq_f, neq_t, Bool.false_eq_true, eq_self, if_true, if_false, ite_true, ite_false, and_true, true_and, and_false, false_and, decide_true, decide_false, Bool.and_true, Bool.true_and, Bool.and_false, Bool.false_and, Bool.or_false, Bool.false_or, Bool.or_true, Bool.true_or, Bool.not_true, Bool.not_false, not_true_eq_false, not_false_eq_true, hes, c2, c3, or_self]
        · refine ⟨gst (gst N 95 18 (nI 2)) 95 19 (nI s), ?_, fr, fr2, ?_, ?_⟩
          · simp (disch := omega) only [pn_lt, pn_ltM, pl_ofN, ↓pl_m1, pl_lit, fa_litL, pn_bs, ck_n, ckh_n, ck_t, ckh_t, nI_add, nI_clamp, nI_ltI, nI_leI, nI_eq, m1_eq, m1_eq2, m1_lt, m1_le, m1_lt2, m1_le2, m1_m1, nI_m1, nI_subn, gb_n, Nat.add_zero, Nat.zero_add, Nat.zero_or, Nat.or_zero, nle_f, nle_t, nlt_f, nlt_t, neq_f, neq_t, Bool.false_eq_true, eq_self, if_true, if_false, ite_true, ite_false, and_true, true_and, and_false, false_and, decide_true, decide_false, Bool.and_true, Bool.true_and, Bool.and_false, Bool.false_and, Bool.or_false, Bool.false_or, Bool.or_true, Bool.true_or, Bool.not_true, Bool.not_false, not_true_eq_false, not_false_eq_true, g5, g3, e9_in, c3, ew0]
          · simp (disch := omega) only [pn_lt, pn_ltM, pl_ofN, ↓pl_m1, pl_lit, fa_litL, pn_bs, ck_n, ckh_n, ck_t, ckh_t, nI_add, nI_clamp, nI_ltI, nI_leI, nI_eq, m1_eq, m1_eq2, m1_lt, m1_le, m1_lt2, m1_le2, m1_m1, nI_m1, nI_subn, gb_n, Nat.add_zero, Nat.zero_add, Nat.zero_or, Nat.or_zero, nle_f, nle_t, nlt_f, nlt_t, neq_f, neq_t, Bool.false_eq_true, eq_self, if_true, if_false, ite_true, ite_false, and_true, true_and, and_false, false_and, decide_true, decide_false, Bool.and_true, Bool.true_and, Bool.and_false, Bool.false_and, Bool.or_false, Bool.false_or, Bool.or_true, Bool.true_or, Bool.not_true, Bool.not_false, not_true_eq_false, not_false_eq_true, gst_v, hes, c2, c3, or_true]
          · simp (disch := omega) only [pn_lt, pn_ltM, pl_ofN, ↓pl_m1, pl_lit, fa_litL, pn_bs, ck_n, ckh_n, ck_t, ckh_t, nI_add, nI_clamp, nI_ltI, nI_leI, nI_eq, m1_eq, m1_eq2, m1_lt, m1_le, m1_lt2, m1_le2, m1_m1, nI_m1, nI_subn, gb_n, Nat.add_zero, Nat.zero_add, Nat.zero_or, Nat.or_zero, nle_f, nle_t, nlt_f, nlt_t, neq_f, neq_t, Bool.false_eq_true, eq_self, if_true, if_false, ite_true, ite_false, and_true, true_and, and_false, false_and, decide_true, decide_false, Bool.and_true, Bool.true_and, Bool.and_false, Bool.false_and, Bool.or_false, Bool.false_or, Bool.or_true, Bool.true_or, Bool.not_true, Bool.not_false, not_true_eq_false, not_false_eq_true, gst_v, hes, c2, c3, or_true]
    obtain ⟨M', f1, f2, f3, f5, f6⟩ := hfin
    refine ⟨v, M', ?_, fun k hk => by rw [f2 k hk, g1 k hk], fun j hj => by rw [f3 j (by omega) (by omega), g2 j (by omega) (by omega)], (f3 _ (by omega) (by omega)).trans g5, (f3 _ (by omega) (by omega)).trans g3, f5, ?_, g9, g10⟩
    · unfold f_X9_takeNumber
      have e15 : gst M1 95 16 (nI s) 95 15 = nI s := by rw [gst_v, if_neg (by omega), r4]
      have ew := e9_want_1 (M := gst M1 95 16 (nI s)) (w := nI s) (n := nI 1) h19
      have ein : f_X9_in (if s < tl then nI (T s) else m1).toInt64 (48 : Int64) (57 : Int64) (gst M1 95 16 (nI s)) = some (nI 1) := by
        have e4 := hb.2 _ hstl
        simp (disch := omega) only [pn_lt, pn_ltM, pl_ofN, ↓pl_m1, pl_lit, fa_litL, pn_bs, ck_n, ckh_n, ck_t, ckh_t, nI_add, nI_clamp, nI_ltI, nI_leI, nI_eq, m1_eq, m1_eq2, m1_lt, m1_le, m1_lt2, m1_le2, m1_m1, nI_m1, nI_subn, gb_n, Nat.add_zero, Nat.zero_add, Nat.zero_or, Nat.or_zero, nle_f, nle_t, nlt_f, nlt_t, neq_f, neq_t, Bool.false_eq_true, eq_self, if_true, if_false, ite_true, ite_false, and_true, true_and, and_false, false_and, decide_true, decide_false, Bool.and_true, Bool.true_and, Bool.and_false, Bool.false_and, Bool.or_false, Bool.false_or, Bool.or_true, Bool.true_or, Bool.not_true, Bool.not_false, not_true_eq_false, not_false_eq_true, e9_inL]
      rw [show (0 : Int32) = nI 0 from rfl, h4, if_pos (by rw [nI_leI (by omega) (by omega)]; exact Nat.le_refl _), r1, pn_bs, pn_lt, pn_ltM]
      dsimp only
      rw [r4, ein, pn_bs, e15, show (1 : Int32) = nI 1 from rfl, ew, pn_bs, if_neg (by show ¬ nI 1 = nI 0; decide)]
      refine h7.trans ?_
      rw [hb97, f1, g6]
    · rw [f6]
      split
      · exact g2 _ (by omega) (by omega)
      · rfl
end EV
