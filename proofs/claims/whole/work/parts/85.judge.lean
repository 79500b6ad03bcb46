/-! judge -/
/-- an entry ahead that keeps the part from being worn -/
def nrB (D : Nat → Nat → Nat) (i j : Nat) : Bool := decide (D 16 j = D 16 i) && decide ((if D 15 j ≤ D 15 i then D 15 i - D 15 j else D 15 j - D 15 i) ≤ D 0 4)
def tbB (D : Nat → Nat → Nat) (i : Nat) : Nat → Bool
  | 0 => false
  | j + 1 => tbB D i j || nrB D i j
theorem tbB_up {D : Nat → Nat → Nat} {i j : Nat} (h : tbB D i j = true) : ∀ m, tbB D i (j + m) = true
  | 0 => h
  | m + 1 => by
    show (tbB D i (j + m) || _) = true
    rw [tbB_up h m]; rfl
theorem ab_abs : ∀ a, a < 12 → ∀ b, b < 12 → (if nI 0 ≤ nI a - nI b then nI a - nI b else nI 0 - (nI a - nI b)) = nI (if a ≤ b then b - a else a - b) := by decide +kernel
theorem ab_0 : ∀ a, a < 12 → ∀ b, b < 12 → (nI a - nI b = nI 0 ↔ a = b) := by decide +kernel
theorem ab_1 : ∀ a, a < 12 → ∀ b, b < 12 → (nI a - nI b = nI 1 ↔ a = b + 1) := by decide +kernel
theorem ab_m : ∀ a, a < 12 → ∀ b, b < 12 → (nI a - nI b = m1 ↔ a + 1 = b) := by decide +kernel
section EV
variable {D : Nat → Nat → Nat} {M : gM}
theorem e0_ahead {F i : Nat} (hF : 4000 ≤ F) (hW : qWF D) (hB : qBK D M) (hi : i < D 0 8) : f_X0_wasToldAhead F (nI i) (nI (D 0 4)) M = some (nI (if tbB D i i then 1 else 0)) := by
  have h40 := hW.2.2.1.2.2.1
  have hlaw := hW.2.2.2.1
  obtain ⟨c1, c2⟩ := hW.2.2.1.2.2.2.2.2 i hi
  obtain ⟨g1, g2, g3, g4⟩ := hB.2.2 i hi
  have hn := hW.1.1
  obtain ⟨r, h1, h2⟩ := up_loop (fun n j (_ : Unit) => f_X0_wasToldAhead_h2 F (nI i) (nI (D 0 4)) M n (nI j)) i (fun j _ => tbB D i j = false) (fun r => r = nI (if tbB D i i then 1 else 0)) (by
    intro n j _ hj hI
    obtain ⟨d1, d2⟩ := hW.2.2.1.2.2.2.2.2 j (by omega)
    obtain ⟨f1, f2, f3, f4⟩ := hB.2.2 j (by omega)
    have ea := ab_abs (D 15 j) (by omega) (D 15 i) (by omega)
    have e1 : tbB D i (j + 1) = (tbB D i j || nrB D i j) := rfl
    cases h3 : nrB D i j
    · refine .inl ⟨(), by rw [e1, hI, h3]; rfl, ?_⟩
      show f_X0_wasToldAhead_h2_b _ _ _ _ _ _ = _
      unfold f_X0_wasToldAhead_h2_b
      unfold nrB at h3
      by_cases h4 : D 16 j = D 16 i
      · rw [decide_eq_true h4, Bool.true_and] at h3
        have h5 := of_decide_eq_false h3
        have h6 : (if D 15 j ≤ D 15 i then D 15 i - D 15 j else D 15 j - D 15 i) ≤ 11 := by split <;> omega
        simp (disch := omega) only [pn_lt, pn_ltM, pl_ofN, ↓pl_m1, pl_lit, fa_litL, pn_bs, ck_n, ckh_n, ck_t, ckh_t, nI_add, nI_clamp, nI_ltI, nI_leI, nI_eq, m1_eq, m1_eq2, m1_lt, m1_le, m1_lt2, m1_le2, m1_m1, nI_m1, nI_subn, gb_n, Nat.add_zero, Nat.zero_add, Nat.zero_or, Nat.or_zero, nle_f, nle_t, nlt_f, nlt_t, neq_f, neq_t, Bool.false_eq_true, eq_self, if_true, if_false, ite_true, ite_false, and_true, true_and, and_false, false_and, decide_true, decide_false, Bool.and_true, Bool.true_and, Bool.and_false, Bool.false_and, Bool.or_false, Bool.false_or, Bool.or_true, Bool.true_or, Bool.not_true, Bool.not_false, not_true_eq_false, not_false_eq_true, f1, f2, g1, g2, ea]
      · simp (disch := omega) only [pn_lt, pn_ltM, pl_ofN, ↓pl_m1, pl_lit, fa_litL, pn_bs, ck_n, ckh_n, ck_t, ckh_t, nI_add, nI_clamp, nI_ltI, nI_leI, nI_eq, m1_eq, m1_eq2, m1_lt, m1_le, m1_lt2, m1_le2, m1_m1, nI_m1, nI_subn, gb_n, Nat.add_zero, Nat.zero_add, Nat.zero_or, Nat.or_zero, nle_f, nle_t, nlt_f, nlt_t, neq_f, neq_t, Bool.false_eq_true, eq_self, if_true, if_false, ite_true, ite_false, and_true, true_and, and_false, false_and, decide_true, decide_false, Bool.and_true, Bool.true_and, Bool.and_false, Bool.false_and, Bool.or_false, Bool.false_or, Bool.or_true, Bool.true_or, Bool.not_true, Bool.not_false, not_true_eq_false, not_false_eq_true, f1, f2, g1, g2]
    · refine .inr ⟨nI 1, ?_, ?_⟩
      · have h4 : tbB D i (j + 1) = true := by rw [e1, h3, Bool.or_true]
        have h5 := tbB_up h4 (i - (j + 1))
        rw [show j + 1 + (i - (j + 1)) = i by omega] at h5
        rw [h5, if_pos rfl]
      · show f_X0_wasToldAhead_h2_b _ _ _ _ _ _ = _
        unfold f_X0_wasToldAhead_h2_b
        unfold nrB at h3
        rw [Bool.and_eq_true, decide_eq_true_iff, decide_eq_true_iff] at h3
        obtain ⟨h4, h5⟩ := h3
        simp (disch := omega) only [pn_lt, pn_ltM, pl_ofN, ↓pl_m1, pl_lit, fa_litL, pn_bs, ck_n, ckh_n, ck_t, ckh_t, nI_add, nI_clamp, nI_ltI, nI_leI, nI_eq, m1_eq, m1_eq2, m1_lt, m1_le, m1_lt2, m1_le2, m1_m1, nI_m1, nI_subn, gb_n, Nat.add_zero, Nat.zero_add, Nat.zero_or, Nat.or_zero, nle_f, nle_t, nlt_f, nlt_t, neq_f, neq_t, Bool.false_eq_true, eq_self, if_true, if_false, ite_true, ite_false, and_true, true_and, and_false, false_and, decide_true, decide_false, Bool.and_true, Bool.true_and, Bool.and_false, Bool.false_and, Bool.or_false, Bool.false_or, Bool.or_true, Bool.true_or, Bool.not_true, Bool.not_false, not_true_eq_false, not_false_eq_true, f1, f2, g1, g2, ea]) (by
    intro n _ hI
    refine ⟨nI 0, by rw [hI]; rfl, ?_⟩
    show f_X0_wasToldAhead_h2_b _ _ _ _ _ _ = _
    unfold f_X0_wasToldAhead_h2_b
    simp (disch := omega) only [pn_lt, pn_ltM, pl_ofN, ↓pl_m1, pl_lit, fa_litL, pn_bs, ck_n, ckh_n, ck_t, ckh_t, nI_add, nI_clamp, nI_ltI, nI_leI, nI_eq, m1_eq, m1_eq2, m1_lt, m1_le, m1_lt2, m1_le2, m1_m1, nI_m1, nI_subn, gb_n, Nat.add_zero, Nat.zero_add, Nat.zero_or, Nat.or_zero, nle_f, nle_t, nlt_f, nlt_t, neq_f, neq_t, Bool.false_eq_true, eq_self, if_true, if_false, ite_true, ite_false, and_true, true_and, and_false, false_and, decide_true, decide_false, Bool.and_true, Bool.true_and, Bool.and_false, Bool.false_and, Bool.or_false, Bool.false_or, Bool.or_true, Bool.true_or, Bool.not_true, Bool.not_false, not_true_eq_false, not_false_eq_true]) i 0 () F (by omega) (by omega) rfl
  unfold f_X0_wasToldAhead
  rw [← h1]
  exact h2
theorem q_judge {F : Nat} (hF : 4000 ≤ F) (h : qR M) : eqR (f_X8_judge F M) (f_X9_judge F M) := by
  obtain ⟨D, hW, hT, hS, hX, hL, hG, hB, hFI, hb⟩ := h
  have h40 := hW.2.2.1.2.2.1
  have hlaw := hW.2.2.2.1
  have hn := hW.1.1
  unfold f_X8_judge f_X0_firstWrong f_X9_judge
  rw [hS.2.1]
  have hlaw9 : M 96 31 = nI (D 0 4) := hS.2.2.2.2.1
  have key : ∀ m i n, i + m = D 0 8 → m < n → ∃ r, f_X0_firstWrong_h2 F (nI (D 0 4)) M n (nI i) = some r ∧ f_X9_judge_h2 F M n (nI i) = some r := by
    intro m
    induction m with
    | zero =>
      intro i n h1 h2
      obtain ⟨n', rfl⟩ : ∃ n', n = n' + 1 := ⟨n - 1, by omega⟩
      refine ⟨m1, ?_, ?_⟩
      · show f_X0_firstWrong_h2_b _ _ _ _ _ = _
        unfold f_X0_firstWrong_h2_b
        simp (disch := omega) only [pn_lt, pn_ltM, pl_ofN, ↓pl_m1, pl_lit, fa_litL, pn_bs, ck_n, ckh_n, ck_t, ckh_t, nI_add, nI_clamp, nI_ltI, nI_leI, nI_eq, m1_eq, m1_eq2, m1_lt, m1_le, m1_lt2, m1_le2, m1_m1, nI_m1, nI_subn, gb_n, Nat.add_zero, Nat.zero_add, Nat.zero_or, Nat.or_zero, nle_f, nle_t, nlt_f, nlt_t, neq_f, neq_t, Bool.false_eq_true, eq_self, if_true, if_false, ite_true, ite_false, and_true, true_and, and_false, false_and, decide_true, decide_false, Bool.and_true, Bool.true_and, Bool.and_false, Bool.false_and, Bool.or_false, Bool.false_or, Bool.or_true, Bool.true_or, Bool.not_true, Bool.not_false, not_true_eq_false, not_false_eq_true, hB.1]
      · show f_X9_judge_h2_b _ _ _ _ = _
        unfold f_X9_judge_h2_b
        simp (disch := omega) only [pn_lt, pn_ltM, pl_ofN, ↓pl_m1, pl_lit, fa_litL, pn_bs, ck_n, ckh_n, ck_t, ckh_t, nI_add, nI_clamp, nI_ltI, nI_leI, nI_eq, m1_eq, m1_eq2, m1_lt, m1_le, m1_lt2, m1_le2, m1_m1, nI_m1, nI_subn, gb_n, Nat.add_zero, Nat.zero_add, Nat.zero_or, Nat.or_zero, nle_f, nle_t, nlt_f, nlt_t, neq_f, neq_t, Bool.false_eq_true, eq_self, if_true, if_false, ite_true, ite_false, and_true, true_and, and_false, false_and, decide_true, decide_false, Bool.and_true, Bool.true_and, Bool.and_false, Bool.false_and, Bool.or_false, Bool.false_or, Bool.or_true, Bool.true_or, Bool.not_true, Bool.not_false, not_true_eq_false, not_false_eq_true, hB.2.1]
    | succ m ih =>
      intro i n h1 h2
      obtain ⟨n', rfl⟩ : ∃ n', n = n' + 1 := ⟨n - 1, by omega⟩
      obtain ⟨r, r1, r2⟩ := ih (i + 1) n' (by omega) (by omega)
      obtain ⟨c1, c2⟩ := hW.2.2.1.2.2.2.2.2 i (by omega)
      obtain ⟨g1, g2, g3, g4⟩ := hB.2.2 i (by omega)
      obtain ⟨x1, x2, x3, x4, x5⟩ := hW.1.2.2.2.1 _ c2
      obtain ⟨t1, t2, t3, t4, t5, t6, t7, t8, t9, t10⟩ := hT.2.2.2.2.2.1 _ c2
      have ef := e8_isFree hW hT c2 c1
      have ea := e0_ahead hF hW hB (i := i) (by omega)
      -- the model's inner loop
      have inner : ∀ w : Bool, f_X9_judge_h55 F M (f_X9_judge_h2 F M n') F (nI i) (nI (if w then 1 else 0)) (nI 0) = if w || tbB D i i then some (nI i) else f_X9_judge_h2 F M n' (nI (i + 1)) := by
        intro w
        obtain ⟨y, h3, h4⟩ := up_inv (fun n j (y : Int32) => f_X9_judge_h55 F M (f_X9_judge_h2 F M n') n (nI i) y (nI j)) i (fun j y => y = nI (if w || tbB D i j then 1 else 0)) (by
          intro n j y hj hy
          refine ⟨_, rfl, ?_⟩
          subst hy
          show f_X9_judge_h55_b _ _ _ _ _ _ _ = _
          unfold f_X9_judge_h55_b f_X9_judge_b103 f_X9_judge_b107 f_X9_judge_b108
          obtain ⟨d1, d2⟩ := hW.2.2.1.2.2.2.2.2 j (by omega)
          obtain ⟨f1, f2, f3, f4⟩ := hB.2.2 j (by omega)
          have a0 := ab_0 (D 15 i) (by omega) (D 15 j) (by omega)
          have a1 := ab_1 (D 15 i) (by omega) (D 15 j) (by omega)
          have am := ab_m (D 15 i) (by omega) (D 15 j) (by omega)
          have e1 : tbB D i (j + 1) = (tbB D i j || nrB D i j) := rfl
          rw [e1, ← Bool.or_assoc]
          have hs : ∀ b : Bool, (nI (if b then 1 else 0) = nI 0) = (b = false) := fun b => by cases b <;> simp <;> decide
          cases h5 : (w || tbB D i j)
          · unfold nrB
            by_cases p1 : D 16 j = D 16 i
            · by_cases p2 : D 15 i = D 15 j
              · simp (disch := omega) only [pn_lt, pn_ltM, pl_ofN, ↓pl_m1, pl_lit, fa_litL, pn_bs, ck_n, ckh_n, ck_t, ckh_t, nI_add, nI_clamp, nI_ltI, nI_leI, nI_eq, m1_eq, m1_eq2, m1_lt, m1_le, m1_lt2, m1_le2, m1_m1, nI_m1, nI_subn, gb_n, Nat.add_zero, Nat.zero_add, Nat.zero_or, Nat.or_zero, nle_f, nle_t, nlt_f, nlt_t, neq_f, neq_t, Bool.false_eq_true, eq_self, if_true, if_false, ite_true, ite_false, and_true, true_and, and_false, false_and, decide_true, decide_false, Bool.and_true, Bool.true_and, Bool.and_false, Bool.false_and, Bool.or_false, Bool.false_or, Bool.or_true, Bool.true_or, Bool.not_true, Bool.not_false, not_true_eq_false, not_false_eq_true, f3, f4, g3, g4, a0, p1, p2]
              · by_cases p3 : D 0 4 = 1
                · by_cases p4 : D 15 i = D 15 j + 1
                  · have p5 : (if D 15 j ≤ D 15 i then D 15 i - D 15 j else D 15 j - D 15 i) ≤ D 0 4 := by rw [if_pos (by omega)]; omega
                    simp (disch := omega) only [pn_lt, pn_ltM, pl_ofN, ↓pl_m1, pl_lit, fa_litL, pn_bs, ck_n, ckh_n, ck_t, ckh_t, nI_add, nI_clamp, nI_ltI, nI_leI, nI_eq, m1_eq, m1_eq2, m1_lt, m1_le, m1_lt2, m1_le2, m1_m1, nI_m1, nI_subn, gb_n, Nat.add_zero, Nat.zero_add, Nat.zero_or, Nat.or_zero, nle_f, nle_t, nlt_f, nlt_t, neq_f, neq_t, Bool.false_eq_true, eq_self, if_true, if_false, ite_true, ite_false, and_true, true_and, and_false, false_and, decide_true, decide_false, Bool.and_true, Bool.true_and, Bool.and_false, Bool.false_and, Bool.or_false, Bool.false_or, Bool.or_true, Bool.true_or, Bool.not_true, Bool.not_false, not_true_eq_false, not_false_eq_true, f3, f4, g3, g4, a0, a1, am, p1, p2, p3, p4, p5, hlaw9]
                  · by_cases p6 : D 15 i + 1 = D 15 j
                    · have p5 : (if D 15 j ≤ D 15 i then D 15 i - D 15 j else D 15 j - D 15 i) ≤ D 0 4 := by rw [if_neg (by omega)]; omega
                      simp (disch := omega) only [pn_lt, pn_ltM, pl_ofN, ↓pl_m1, pl_lit, fa_litL, pn_bs, ck_n, ckh_n, ck_t, ckh_t, nI_add, nI_clamp, nI_ltI, nI_leI, nI_eq, m1_eq, m1_eq2, m1_lt, m1_le, m1_lt2, m1_le2, m1_m1, nI_m1, nI_subn, gb_n, Nat.add_zero, Nat.zero_add, Nat.zero_or, Nat.or_zero, nle_f, nle_t, nlt_f, nlt_t, neq_f, neq_t, Bool.false_eq_true, eq_self, if_true, if_false, ite_true, ite_false, and_true, true_and, and_false, false_and, decide_true, decide_false, Bool.and_true, Bool.true_and, Bool.and_false, Bool.false_and, Bool.or_false, Bool.false_or, Bool.or_true, Bool.true_or, Bool.not_true, Bool.not_false, not_true_eq_false, not_false_eq_true, f3, f4, g3, g4, a0, a1, am, p1, p2, p3, p4, p5, p6, hlaw9]
                    · have p5 : ¬ (if D 15 j ≤ D 15 i then D 15 i - D 15 j else D 15 j - D 15 i) ≤ D 0 4 := by split <;> omega
                      simp (disch := omega) only [pn_lt, pn_ltM, pl_ofN, ↓pl_m1, pl_lit, fa_litL, pn_bs, ck_n, ckh_n, ck_t, ckh_t, nI_add, nI_clamp, nI_ltI, nI_leI, nI_eq, m1_eq, m1_eq2, m1_lt, m1_le, m1_lt2, m1_le2, m1_m1, nI_m1, nI_subn, gb_n, Nat.add_zero, Nat.zero_add, Nat.zero_or, Nat.or_zero, nle_f, nle_t, nlt_f, nlt_t, neq_f, neq_t, Bool.false_eq_true, eq_self, if_true, if_false, ite_true, ite_false, and_true, true_and, and_false, false_and, decide_true, decide_false, Bool.and_true, Bool.true_and, Bool.and_false, Bool.false_and, Bool.or_false, Bool.false_or, Bool.or_true, Bool.true_or, Bool.not_true, Bool.not_false, not_true_eq_false, not_false_eq_true, f3, f4, g3, g4, a0, a1, am, p1, p2, p3, p4, p5, p6, hlaw9]
                · have p5 : ¬ (if D 15 j ≤ D 15 i then D 15 i - D 15 j else D 15 j - D 15 i) ≤ D 0 4 := by split <;> omega
                  simp (disch := omega) only [pn_lt, pn_ltM, pl_ofN, ↓pl_m1, pl_lit, fa_litL, pn_bs, ck_n, ckh_n, ck_t, ckh_t, nI_add, nI_clamp, nI_ltI, nI_leI, nI_eq, m1_eq, m1_eq2, m1_lt, m1_le, m1_lt2, m1_le2, m1_m1, nI_m1, nI_subn, gb_n, Nat.add_zero, Nat.zero_add, Nat.zero_or, Nat.or_zero, nle_f, nle_t, nlt_f, nlt_t, neq_f, neq_t, Bool.false_eq_true, eq_self, if_true, if_false, ite_true, ite_false, and_true, true_and, and_false, false_and, decide_true, decide_false, Bool.and_true, Bool.true_and, Bool.and_false, Bool.false_and, Bool.or_false, Bool.false_or, Bool.or_true, Bool.true_or, Bool.not_true, Bool.not_false, not_true_eq_false, not_false_eq_true, f3, f4, g3, g4, a0, p1, p2, p3, p5, hlaw9]
            · by_cases p2 : D 15 i = D 15 j
              · simp (disch := omega) only [pn_lt, pn_ltM, pl_ofN, ↓pl_m1, pl_lit, fa_litL, pn_bs, ck_n, ckh_n, ck_t, ckh_t, nI_add, nI_clamp, nI_ltI, nI_leI, nI_eq, m1_eq, m1_eq2, m1_lt, m1_le, m1_lt2, m1_le2, m1_m1, nI_m1, nI_subn, gb_n, Nat.add_zero, Nat.zero_add, Nat.zero_or, Nat.or_zero, nle_f, nle_t, nlt_f, nlt_t, neq_f, neq_t, Bool.false_eq_true, eq_self, if_true, if_false, ite_true, ite_false, and_true, true_and, and_false, false_and, decide_true, decide_false, Bool.and_true, Bool.true_and, Bool.and_false, Bool.false_and, Bool.or_false, Bool.false_or, Bool.or_true, Bool.true_or, Bool.not_true, Bool.not_false, not_true_eq_false, not_false_eq_true, f3, f4, g3, g4, a0, p1, p2]
              · by_cases p3 : D 0 4 = 1
                · by_cases p4 : D 15 i = D 15 j + 1
                  · simp (disch := omega) only [pn_lt, pn_ltM, pl_ofN, ↓pl_m1, pl_lit, fa_litL, pn_bs, ck_n, ckh_n, ck_t, ckh_t, nI_add, nI_clamp, nI_ltI, nI_leI, nI_eq, m1_eq, m1_eq2, m1_lt, m1_le, m1_lt2, m1_le2, m1_m1, nI_m1, nI_subn, gb_n, Nat.add_zero, Nat.zero_add, Nat.zero_or, Nat.or_zero, nle_f, nle_t, nlt_f, nlt_t, neq_f, neq_t, Bool.false_eq_true, eq_self, if_true, if_false, ite_true, ite_false, and_true, true_and, and_false, false_and, decide_true, decide_false, Bool.and_true, Bool.true_and, Bool.and_false, Bool.false_and, Bool.or_false, Bool.false_or, Bool.or_true, Bool.true_or, Bool.not_true, Bool.not_false, not_true_eq_false, not_false_eq_true, f3, f4, g3, g4, a0, a1, am, p1, p2, p3, p4, hlaw9]
                  · by_cases p6 : D 15 i + 1 = D 15 j
                    · simp (disch := omega) only [pn_lt, pn_ltM, pl_ofN, ↓pl_m1, pl_lit, fa_litL, pn_bs, ck_n, ckh_n, ck_t, ckh_t, nI_add, nI_clamp, nI_ltI, nI_leI, nI_eq, m1_eq, m1_eq2, m1_lt, m1_le, m1_lt2, m1_le2, m1_m1, nI_m1, nI_subn, gb_n, Nat.add_zero, Nat.zero_add, Nat.zero_or, Nat.or_zero, nle_f, nle_t, nlt_f, nlt_t, neq_f, neq_t, Bool.false_eq_true, eq_self, if_true, if_false, ite_true, ite_false, and_true, true_and, and_false, false_and, decide_true, decide_false, Bool.and_true, Bool.true_and, Bool.and_false, Bool.false_and, Bool.or_false, Bool.false_or, Bool.or_true, Bool.true_or, Bool.not_true, Bool.not_false, not_true_eq_false, not_false_eq_true, f3, f4, g3, g4, a0, a1, am, p1, p2, p3, p4, p6, hlaw9]
                    · simp (disch := omega) only [pn_lt, pn_ltM, pl_ofN, ↓pl_m1, pl_lit, fa_litL, pn_bs, ck_n, ckh_n, ck_t, ckh_t, nI_add, nI_clamp, nI_ltI, nI_leI, nI_eq, m1_eq, m1_eq2, m1_lt, m1_le, m1_lt2, m1_le2, m1_m1, nI_m1, nI_subn, gb_n, Nat.add_zero, Nat.zero_add, Nat.zero_or, Nat.or_zero, nle_f, nle_t, nlt_f, nlt_t, neq_f, neq_t, Bool.false_eq_true, eq_self, if_true, if_false, ite_true, ite_false, and_true, true_and, and_false, false_and, decide_true, decide_false, Bool.and_true, Bool.true_and, Bool.and_false, Bool.false_and, Bool.or_false, Bool.false_or, Bool.or_true, Bool.true_or, Bool.not_true, Bool.not_false, not_true_eq_false, not_false_eq_true, f3, f4, g3, g4, a0, a1, am, p1, p2, p3, p4, p6, hlaw9]
                · simp (disch := omega) only [pn_lt, pn_ltM, pl_ofN, ↓pl_m1, pl_lit, fa_litL, pn_bs, ck_n, ckh_n, ck_t, ckh_t, nI_add, nI_clamp, nI_ltI, nI_leI, nI_eq, m1_eq, m1_eq2, m1_lt, m1_le, m1_lt2, m1_le2, m1_m1, nI_m1, nI_subn, gb_n, Nat.add_zero, Nat.zero_add, Nat.zero_or, Nat.or_zero, nle_f, nle_t, nlt_f, nlt_t, neq_f, neq_t, Bool.false_eq_true, eq_self, if_true, if_false, ite_true, ite_false, and_true, true_and, and_false, false_and, decide_true, decide_false, Bool.and_true, Bool.true_and, Bool.and_false, Bool.false_and, Bool.or_false, Bool.false_or, Bool.or_true, Bool.true_or, Bool.not_true, Bool.not_false, not_true_eq_false, not_false_eq_true, f3, f4, g3, g4, a0, p1, p2, p3, hlaw9]
          · by_cases p2 : D 15 i = D 15 j
            · simp (disch := omega) only [pn_lt, pn_ltM, pl_ofN, ↓pl_m1, pl_lit, fa_litL, pn_bs, ck_n, ckh_n, ck_t, ckh_t, nI_add, nI_clamp, nI_ltI, nI_leI, nI_eq, m1_eq, m1_eq2, m1_lt, m1_le, m1_lt2, m1_le2, m1_m1, nI_m1, nI_subn, gb_n, Nat.add_zero, Nat.zero_add, Nat.zero_or, Nat.or_zero, nle_f, nle_t, nlt_f, nlt_t, neq_f, neq_t, Bool.false_eq_true, eq_self, if_true, if_false, ite_true, ite_false, and_true, true_and, and_false, false_and, decide_true, decide_false, Bool.and_true, Bool.true_and, Bool.and_false, Bool.false_and, Bool.or_false, Bool.false_or, Bool.or_true, Bool.true_or, Bool.not_true, Bool.not_false, not_true_eq_false, not_false_eq_true, f3, f4, g3, g4, a0, p2]
            · by_cases p3 : D 0 4 = 1
              · by_cases p4 : D 15 i = D 15 j + 1
                · simp (disch := omega) only [pn_lt, pn_ltM, pl_ofN, ↓pl_m1, pl_lit, fa_litL, pn_bs, ck_n, ckh_n, ck_t, ckh_t, nI_add, nI_clamp, nI_ltI, nI_leI, nI_eq, m1_eq, m1_eq2, m1_lt, m1_le, m1_lt2, m1_le2, m1_m1, nI_m1, nI_subn, gb_n, Nat.add_zero, Nat.zero_add, Nat.zero_or, Nat.or_zero, nle_f, nle_t, nlt_f, nlt_t, neq_f, neq_t, Bool.false_eq_true, eq_self, if_true, if_false, ite_true, ite_false, and_true, true_and, and_false, false_and, decide_true, decide_false, Bool.and_true, Bool.true_and, Bool.and_false, Bool.false_and, Bool.or_false, Bool.false_or, Bool.or_true, Bool.true_or, Bool.not_true, Bool.not_false, not_true_eq_false, not_false_eq_true, f3, f4, g3, g4, a0, a1, am, p2, p3, p4, hlaw9]
                · by_cases p6 : D 15 i + 1 = D 15 j
                  · simp (disch := omega) only [pn_lt, pn_ltM, pl_ofN, ↓pl_m1, pl_lit, fa_litL, pn_bs, ck_n, ckh_n, ck_t, ckh_t, nI_add, nI_clamp, nI_ltI, nI_leI, nI_eq, m1_eq, m1_eq2, m1_lt, m1_le, m1_lt2, m1_le2, m1_m1, nI_m1, nI_subn, gb_n, Nat.add_zero, Nat.zero_add, Nat.zero_or, Nat.or_zero, nle_f, nle_t, nlt_f, nlt_t, neq_f, neq_t, Bool.false_eq_true, eq_self, if_true, if_false, ite_true, ite_false, and_true, true_and, and_false, false_and, decide_true, decide_false, Bool.and_true, Bool.true_and, Bool.and_false, Bool.false_and, Bool.or_false, Bool.false_or, Bool.or_true, Bool.true_or, Bool.not_true, Bool.not_false, not_true_eq_false, not_false_eq_true, f3, f4, g3, g4, a0, a1, am, p2, p3, p4, p6, hlaw9]
                  · simp (disch := omega) only [pn_lt, pn_ltM, pl_ofN, ↓pl_m1, pl_lit, fa_litL, pn_bs, ck_n, ckh_n, ck_t, ckh_t, nI_add, nI_clamp, nI_ltI, nI_leI, nI_eq, m1_eq, m1_eq2, m1_lt, m1_le, m1_lt2, m1_le2, m1_m1, nI_m1, nI_subn, gb_n, Nat.add_zero, Nat.zero_add, Nat.zero_or, Nat.or_zero, nle_f, nle_t, nlt_f, nlt_t, neq_f, neq_t, Bool.false_eq_true, eq_self, if_true, if_false, ite_true, ite_false, and_true, true_and, and_false, false_and, decide_true, decide_false, Bool.and_true, Bool.true_and, Bool.and_false, Bool.false_and, Bool.or_false, Bool.false_or, Bool.or_true, Bool.true_or, Bool.not_true, Bool.not_false, not_true_eq_false, not_false_eq_true, f3, f4, g3, g4, a0, a1, am, p2, p3, p4, p6, hlaw9]
              · simp (disch := omega) only [pn_lt, pn_ltM, pl_ofN, ↓pl_m1, pl_lit, fa_litL, pn_bs, ck_n, ckh_n, ck_t, ckh_t, nI_add, nI_clamp, nI_ltI, nI_leI, nI_eq, m1_eq, m1_eq2, m1_lt, m1_le, m1_lt2, m1_le2, m1_m1, nI_m1, nI_subn, gb_n, Nat.add_zero, Nat.zero_add, Nat.zero_or, Nat.or_zero, nle_f, nle_t, nlt_f, nlt_t, neq_f, neq_t, Bool.false_eq_true, eq_self, if_true, if_false, ite_true, ite_false, and_true, true_and, and_false, false_and, decide_true, decide_false, Bool.and_true, Bool.true_and, Bool.and_false, Bool.false_and, Bool.or_false, Bool.false_or, Bool.or_true, Bool.true_or, Bool.not_true, Bool.not_false, not_true_eq_false, not_false_eq_true, f3, f4, g3, g4, a0, p2, p3, hlaw9]) i 0 (nI (if w then 1 else 0)) F (by omega) (by omega) (by cases w <;> rfl)
        refine h4.trans ?_
        obtain ⟨q, e⟩ : ∃ q, F - i = q + 1 := ⟨F - i - 1, by omega⟩
        rw [e, h3]
        show f_X9_judge_h55_b _ _ _ _ _ _ _ = _
        unfold f_X9_judge_h55_b
        cases h5 : (w || tbB D i i)
        · simp (disch := omega) only [pn_lt, pn_ltM, pl_ofN, ↓pl_m1, pl_lit, fa_litL, pn_bs, ck_n, ckh_n, ck_t, ckh_t, nI_add, nI_clamp, nI_ltI, nI_leI, nI_eq, m1_eq, m1_eq2, m1_lt, m1_le, m1_lt2, m1_le2, m1_m1, nI_m1, nI_subn, gb_n, Nat.add_zero, Nat.zero_add, Nat.zero_or, Nat.or_zero, nle_f, nle_t, nlt_f, nlt_t, neq_f, neq_t, Bool.false_eq_true, eq_self, if_true, if_false, ite_true, ite_false, and_true, true_and, and_false, false_and, decide_true, decide_false, Bool.and_true, Bool.true_and, Bool.and_false, Bool.false_and, Bool.or_false, Bool.false_or, Bool.or_true, Bool.true_or, Bool.not_true, Bool.not_false, not_true_eq_false, not_false_eq_true]
        · simp (disch := omega) only [pn_lt, pn_ltM, pl_ofN, ↓pl_m1, pl_lit, fa_litL, pn_bs, ck_n, ckh_n, ck_t, ckh_t, nI_add, nI_clamp, nI_ltI, nI_leI, nI_eq, m1_eq, m1_eq2, m1_lt, m1_le, m1_lt2, m1_le2, m1_m1, nI_m1, nI_subn, gb_n, Nat.add_zero, Nat.zero_add, Nat.zero_or, Nat.or_zero, nle_f, nle_t, nlt_f, nlt_t, neq_f, neq_t, Bool.false_eq_true, eq_self, if_true, if_false, ite_true, ite_false, and_true, true_and, and_false, false_and, decide_true, decide_false, Bool.and_true, Bool.true_and, Bool.and_false, Bool.false_and, Bool.or_false, Bool.false_or, Bool.or_true, Bool.true_or, Bool.not_true, Bool.not_false, not_true_eq_false, not_false_eq_true]
      have hcase : f_X9_judge_h2_b F M (f_X9_judge_h2 F M n') (nI i) = if !fhB D (D 15 i) (D 16 i) || tbB D i i then some (nI i) else f_X9_judge_h2 F M n' (nI (i + 1)) := by
        rw [← inner]
        unfold f_X9_judge_h2_b
        have e5 : (D 6 (D 16 i) ≤ D 15 i ∧ D 15 i ≤ D 7 (D 16 i)) ↔ fhB D (D 15 i) (D 16 i) = true := by
          unfold fhB
          rw [Bool.and_eq_true, decide_eq_true_iff, decide_eq_true_iff]
        cases h6 : fhB D (D 15 i) (D 16 i)
        · simp (disch := omega) only [pn_lt, pn_ltM, pl_ofN, ↓pl_m1, pl_lit, fa_litL, pn_bs, ck_n, ckh_n, ck_t, ckh_t, nI_add, nI_clamp, nI_ltI, nI_leI, nI_eq, m1_eq, m1_eq2, m1_lt, m1_le, m1_lt2, m1_le2, m1_m1, nI_m1, nI_subn, gb_n, Nat.add_zero, Nat.zero_add, Nat.zero_or, Nat.or_zero, nle_f, nle_t, nlt_f, nlt_t, neq_f, neq_t, Bool.false_eq_true, eq_self, if_true, if_false, ite_true, ite_false, and_true, true_and, and_false, false_and, decide_true, decide_false, Bool.and_true, Bool.true_and, Bool.and_false, Bool.false_and, Bool.or_false, Bool.false_or, Bool.or_true, Bool.true_or, Bool.not_true, Bool.not_false, not_true_eq_false, not_false_eq_true, hB.2.1, g3, g4, t8, t9, e9_in, e5, h6]
        · simp (disch := omega) only [pn_lt, pn_ltM, pl_ofN, ↓pl_m1, pl_lit, fa_litL, pn_bs, ck_n, ckh_n, ck_t, ckh_t, nI_add, nI_clamp, nI_ltI, nI_leI, nI_eq, m1_eq, m1_eq2, m1_lt, m1_le, m1_lt2, m1_le2, m1_m1, nI_m1, nI_subn, gb_n, Nat.add_zero, Nat.zero_add, Nat.zero_or, Nat.or_zero, nle_f, nle_t, nlt_f, nlt_t, neq_f, neq_t, Bool.false_eq_true, eq_self, if_true, if_false, ite_true, ite_false, and_true, true_and, and_false, false_and, decide_true, decide_false, Bool.and_true, Bool.true_and, Bool.and_false, Bool.false_and, Bool.or_false, Bool.false_or, Bool.or_true, Bool.true_or, Bool.not_true, Bool.not_false, not_true_eq_false, not_false_eq_true, hB.2.1, g3, g4, t8, t9, e9_in, e5, h6]
      cases h6 : fhB D (D 15 i) (D 16 i)
      · refine ⟨nI i, ?_, ?_⟩
        · show f_X0_firstWrong_h2_b _ _ _ _ _ = _
          unfold f_X0_firstWrong_h2_b
          simp (disch := omega) only [pn_lt, pn_ltM, pl_ofN, ↓pl_m1, pl_lit, fa_litL, pn_bs, ck_n, ckh_n, ck_t, ckh_t, nI_add, nI_clamp, nI_ltI, nI_leI, nI_eq, m1_eq, m1_eq2, m1_lt, m1_le, m1_lt2, m1_le2, m1_m1, nI_m1, nI_subn, gb_n, Nat.add_zero, Nat.zero_add, Nat.zero_or, Nat.or_zero, nle_f, nle_t, nlt_f, nlt_t, neq_f, neq_t, Bool.false_eq_true, eq_self, if_true, if_false, ite_true, ite_false, and_true, true_and, and_false, false_and, decide_true, decide_false, Bool.and_true, Bool.true_and, Bool.and_false, Bool.false_and, Bool.or_false, Bool.false_or, Bool.or_true, Bool.true_or, Bool.not_true, Bool.not_false, not_true_eq_false, not_false_eq_true, hB.1, g1, g2, ef, h6]
        · rw [h6] at hcase
          exact hcase
      · cases h7 : tbB D i i
        · refine ⟨r, ?_, ?_⟩
          · show f_X0_firstWrong_h2_b _ _ _ _ _ = _
            unfold f_X0_firstWrong_h2_b
            simp (disch := omega) only [pn_lt, pn_ltM, pl_ofN, ↓pl_m1, pl_lit, fa_litL, pn_bs, ck_n, ckh_n, ck_t, ckh_t, nI_add, nI_clamp, nI_ltI, nI_leI, nI_eq, m1_eq, m1_eq2, m1_lt, m1_le, m1_lt2, m1_le2, m1_m1, nI_m1, nI_subn, gb_n, Nat.add_zero, Nat.zero_add, Nat.zero_or, Nat.or_zero, nle_f, nle_t, nlt_f, nlt_t, neq_f, neq_t, Bool.false_eq_true, eq_self, if_true, if_false, ite_true, ite_false, and_true, true_and, and_false, false_and, decide_true, decide_false, Bool.and_true, Bool.true_and, Bool.and_false, Bool.false_and, Bool.or_false, Bool.false_or, Bool.or_true, Bool.true_or, Bool.not_true, Bool.not_false, not_true_eq_false, not_false_eq_true, hB.1, g1, g2, ef, h6, ea, h7]
            exact r1
          · rw [h6, h7] at hcase
            exact hcase.trans r2
        · refine ⟨nI i, ?_, ?_⟩
          · show f_X0_firstWrong_h2_b _ _ _ _ _ = _
            unfold f_X0_firstWrong_h2_b
            simp (disch := omega) only [pn_lt, pn_ltM, pl_ofN, ↓pl_m1, pl_lit, fa_litL, pn_bs, ck_n, ckh_n, ck_t, ckh_t, nI_add, nI_clamp, nI_ltI, nI_leI, nI_eq, m1_eq, m1_eq2, m1_lt, m1_le, m1_lt2, m1_le2, m1_m1, nI_m1, nI_subn, gb_n, Nat.add_zero, Nat.zero_add, Nat.zero_or, Nat.or_zero, nle_f, nle_t, nlt_f, nlt_t, neq_f, neq_t, Bool.false_eq_true, eq_self, if_true, if_false, ite_true, ite_false, and_true, true_and, and_false, false_and, decide_true, decide_false, Bool.and_true, Bool.true_and, Bool.and_false, Bool.false_and, Bool.or_false, Bool.false_or, Bool.or_true, Bool.true_or, Bool.not_true, Bool.not_false, not_true_eq_false, not_false_eq_true, hB.1, g1, g2, ef, h6, ea, h7]
          · rw [h6, h7] at hcase
            exact hcase
  obtain ⟨r, r1, r2⟩ := key (D 0 8) 0 F (by omega) (by omega)
  refine ⟨r, ?_, r2⟩
  rw [show (0 : Int32) = nI 0 from rfl, r1]
  rfl
end EV
