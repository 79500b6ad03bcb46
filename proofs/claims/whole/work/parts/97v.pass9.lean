/-! a day at the model -/
section EV
variable {F : Nat} {D : Nat → Nat → Nat} {M : gM}
theorem e9_out1 (k30 : Int32 → Int32 → gM → Option (Int32 × gM)) (v : Int32) {p : Nat} (hp : p < 10) : ∀ (j n t w : Nat) (N : gM), N 96 (20 + p) = nI t → N 96 p = nI w → w ≤ 9 → t ≤ 10 * j + 9 → j ≤ 9 → j < n →
    ∃ N', f_X9_pass_h79 F k30 n v (nI p) N = k30 v (nI (p + 1)) N' ∧ N' 96 (20 + p) = nI (t % 10) ∧ N' 96 p = nI (w - t / 10) ∧ (∀ k i, ¬ (k = 96 ∧ (i = p ∨ i = 20 + p)) → N' k i = N k i) := by
  intro j
  induction j with
  | zero =>
    intro n t w N h1 h2 h3 h4 h6 h5
    obtain ⟨n', rfl⟩ : ∃ n', n = n' + 1 := ⟨n - 1, by omega⟩
    refine ⟨N, ?_, by rw [h1, Nat.mod_eq_of_lt (by omega)], ?_, fun _ _ _ => rfl⟩
    · show f_X9_pass_h79_b F _ _ _ _ _ = _
      unfold f_X9_pass_h79_b
      simp (disch := omega) only [pn_lt, pn_ltM, pl_ofN, ↓pl_m1, pl_lit, fa_litL, pn_bs, ck_n, ckh_n, ck_t, ckh_t, nI_add, nI_clamp, nI_ltI, nI_leI, nI_eq, m1_eq, m1_eq2, m1_lt, m1_le, m1_lt2, m1_le2, m1_m1, nI_m1, nI_subn, gb_n, Nat.add_zero, Nat.zero_add, Nat.zero_or, Nat.or_zero, nle_f, nle_t, nlt_f, nlt_t, neq_f, neq_t, Bool.false_eq_true, eq_self, if_true, if_false, ite_true, ite_false, and_true, true_and, and_false, false_and, decide_true, decide_false, Bool.and_true, Bool.true_and, Bool.and_false, Bool.false_and, Bool.or_false, Bool.false_or, Bool.or_true, Bool.true_or, Bool.not_true, Bool.not_false, not_true_eq_false, not_false_eq_true, h1]
    · rw [h2]
      congr 1
      omega
  | succ j ih =>
    intro n t w N h1 h2 h3 h4 h6 h5
    obtain ⟨n', rfl⟩ : ∃ n', n = n' + 1 := ⟨n - 1, by omega⟩
    by_cases c : t < 10
    · refine ⟨N, ?_, by rw [h1, Nat.mod_eq_of_lt (by omega)], ?_, fun _ _ _ => rfl⟩
      · show f_X9_pass_h79_b F _ _ _ _ _ = _
        unfold f_X9_pass_h79_b
        simp (disch := omega) only [pn_lt, pn_ltM, pl_ofN, ↓pl_m1, pl_lit, fa_litL, pn_bs, ck_n, ckh_n, ck_t, ckh_t, nI_add, nI_clamp, nI_ltI, nI_leI, nI_eq, m1_eq, m1_eq2, m1_lt, m1_le, m1_lt2, m1_le2, m1_m1, nI_m1, nI_subn, gb_n, Nat.add_zero, Nat.zero_add, Nat.zero_or, Nat.or_zero, nle_f, nle_t, nlt_f, nlt_t, neq_f, neq_t, Bool.false_eq_true, eq_self, if_true, if_false, ite_true, ite_false, and_true, true_and, and_false, false_and, decide_true, decide_false, Bool.and_true, Bool.true_and, Bool.and_false, Bool.false_and, Bool.or_false, Bool.false_or, Bool.or_true, Bool.true_or, Bool.not_true, Bool.not_false, not_true_eq_false, not_false_eq_true, h1]
      · rw [h2]
        congr 1
        omega
    · obtain ⟨N', g1, g2, g3, g5⟩ := ih n' (t - 10) (w - 1) (gst (gst N 96 (20 + p) (nI (t - 10))) 96 p (nI (w - 1))) (by rw [gst_v, if_neg (by omega), gst_v, if_pos ⟨rfl, rfl⟩]) (by rw [gst_v, if_pos ⟨rfl, rfl⟩]) (by omega) (by omega) (by omega) (by omega)
      refine ⟨N', Eq.trans ?_ g1, ?_, ?_, fun k i hk => ?_⟩
      · show f_X9_pass_h79_b F _ _ _ _ _ = _
        unfold f_X9_pass_h79_b
        have e10 : nI t - nI 10 = nI (t - 10) := nI_subn (by omega)
        by_cases z : w = 0
        · subst z
          simp (disch := omega) only [pn_lt, pn_ltM, pl_ofN, ↓pl_m1, pl_lit, fa_litL, pn_bs, ck_n, ckh_n, ck_t, ckh_t, nI_add, nI_clamp, nI_ltI, nI_leI, nI_eq, m1_eq, m1_eq2, m1_lt, m1_le, m1_lt2, m1_le2, m1_m1, nI_m1, nI_subn, gb_n, Nat.add_zero, Nat.zero_add, Nat.zero_or, Nat.or_zero, nle_f, nle_t, nlt_f, nlt_t, neq_f, neq_t, Bool.false_eq_true, eq_self, if_true, if_false, ite_true, ite_false, and_true, true_and, and_false, false_and, decide_true, decide_false, Bool.and_true, Bool.true_and, Bool.and_false, Bool.false_and, Bool.or_false, Bool.false_or, Bool.or_true, Bool.true_or, Bool.not_true, Bool.not_false, not_true_eq_false, not_false_eq_true, h1, h2, e10, gst_v]
        · have e1 : nI w - nI 1 = nI (w - 1) := nI_subn (by omega)
          simp (disch := omega) only [pn_lt, pn_ltM, pl_ofN, ↓pl_m1, pl_lit, fa_litL, pn_bs, ck_n, ckh_n, ck_t, ckh_t, nI_add, nI_clamp, nI_ltI, nI_leI, nI_eq, m1_eq, m1_eq2, m1_lt, m1_le, m1_lt2, m1_le2, m1_m1, nI_m1, nI_subn, gb_n, Nat.add_zero, Nat.zero_add, Nat.zero_or, Nat.or_zero, nle_f, nle_t, nlt_f, nlt_t, neq_f, neq_t, Bool.false_eq_true, eq_self, if_true, if_false, ite_true, ite_false, and_true, true_and, and_false, false_and, decide_true, decide_false, Bool.and_true, Bool.true_and, Bool.and_false, Bool.false_and, Bool.or_false, Bool.false_or, Bool.or_true, Bool.true_or, Bool.not_true, Bool.not_false, not_true_eq_false, not_false_eq_true, h1, h2, e10, gst_v, e1]
      · rw [g2]
        congr 1
        omega
      · rw [g3]
        congr 1
        omega
      · rw [g5 k i hk, gst_v, if_neg (by omega), gst_v, if_neg (by omega)]
theorem e9_pass (hF : 4000 ≤ F) (hW : qWF D) (hQ : qMR D 0 M) : ∃ M', f_X9_pass F M = some (nI (dyR D), M') ∧ qS9 (D 0 0) (dyD D) M' ∧ M' 96 32 = M 96 32 + 1 ∧ (∀ k j, ¬ (k = 96 ∧ j < 40) → (k < 111 ∨ 115 < k) → M' k j = M k j) := by
  have hn := hW.1.1
  have hpr : ∀ p, p < D 0 0 → D 4 p ≤ 99 := fun p hp => (hW.2.2.2.2.2.2.1 p hp).2
  obtain ⟨C, c1, c2, c3, c4⟩ := e9_leastIn hF hW (bn := 0) (by omega) hQ
  have htf := tP_fin (bn := 0) (f := D 4) (l := D 0 4) hW hpr
  have hSC : qS9 (D 0 0) D C := qS9_fr hQ.2.2.1 hn (fun j hj => c4 96 j (by omega))
  have c1' : f_X9_leastIn F (nI 0) M = some (if tP D 0 (D 4) (D 0 4) < 1000000 then nI (tP D 0 (D 4) (D 0 4)) else m1, C) := c1
  have e32 : C 96 32 = M 96 32 := c4 _ _ (by omega)
  unfold f_X9_pass
  rw [show (0 : Int32) = nI 0 from rfl, c1', pn_bs, pn_lt]
  dsimp only
  rw [show (32 : Int32) = nI 32 from rfl, ck_n _ (by omega) (by omega), ck_n _ (by omega) (by omega), pn_ltM, nI_clamp (by omega)]
  by_cases z : tP D 0 (D 4) (D 0 4) = 1000000
  · rw [if_neg (show ¬ tP D 0 (D 4) (D 0 4) < 1000000 by omega), if_neg (show ¬ nI 0 ≤ m1 by decide +kernel)]
    have e : dyD D = D := by
      funext c i
      unfold dyD
      rw [if_pos z]
    have eR : dyR D = 0 := by unfold dyR; rw [if_pos z]
    rw [e, eR]
    refine ⟨_, rfl, ?_, by rw [gst_v, if_pos ⟨rfl, rfl⟩, e32], fun k j h1 h2 => by rw [gst_v, if_neg (by omega)]; exact c4 k j (by omega)⟩
    obtain ⟨a1, a2, a3, a4⟩ := hSC
    exact ⟨by rw [gst_v, if_neg (by omega)]; exact a1, by rw [gst_v, if_neg (by omega)]; exact a2, by rw [gst_v, if_neg (by omega)]; exact a3, fun p hp => ⟨by rw [gst_v, if_neg (by omega)]; exact (a4 p hp).1, by rw [gst_v, if_neg (by omega)]; exact (a4 p hp).2.1, by rw [gst_v, if_neg (by omega)]; exact (a4 p hp).2.2⟩⟩
  · have hlt : tP D 0 (D 4) (D 0 4) < 1000000 := by omega
    rw [if_pos hlt, if_pos (show nI 0 ≤ nI (tP D 0 (D 4) (D 0 4)) by rw [nI_leI (by omega) (by omega)]; omega)]
    have hT := hQ.1
    have fC : ∀ k j, ¬ (k = 96 ∧ j = 32) → gst C 96 32 (C 96 32 + 1) k j = C k j := fun k j h => by rw [gst_v, if_neg h]
    have hT1 : qTW D (gst C 96 32 (C 96 32 + 1)) := qTW_fr hT hn hW.1.2.1 (fun k j q => by rw [fC k j (by omega)]; exact c4 k j (by omega))
    have hS1 : qS9 (D 0 0) D (gst C 96 32 (C 96 32 + 1)) := by
      obtain ⟨a1, a2, a3, a4⟩ := hSC
      exact ⟨by rw [fC _ _ (by omega)]; exact a1, by rw [fC _ _ (by omega)]; exact a2, by rw [fC _ _ (by omega)]; exact a3, fun p hp => ⟨by rw [fC _ _ (by omega)]; exact (a4 p hp).1, by rw [fC _ _ (by omega)]; exact (a4 p hp).2.1, by rw [fC _ _ (by omega)]; exact (a4 p hp).2.2⟩⟩
    obtain ⟨N, w1, w2, w3⟩ := e9_findWorn (A := aB D 0) (f := D 4) (l := D 0 4) (x := 0) hF hW (pRow_of hT1 hS1) (fun h hh a ha => by rw [fC _ _ (by omega)]; exact c2 h hh a ha) hpr hW.2.2.2.1 (by omega) (fun h hh => ⟨by rw [fC _ _ (by omega)]; exact (c3 h hh).1, fun q a ha q2 => by rw [fC _ _ (by omega)]; exact (c3 h hh).2 q a ha q2⟩) hlt
    have hS2 : qS9 (D 0 0) D N := qS9_fr hS1 hn (fun j _ => by rw [w3 _ (by omega)])
    obtain ⟨a1, a2, a3, a4⟩ := id hS2
    have hb5 := hW.2.2.2.2.2.2.2.1
    have hb3 := hW.2.2.2.2.2.2.1
    have h108 : N 108 0 = nI (D 0 0) := by rw [w3 _ (by omega)]; exact hT1.2.2.2.1
    have w2' : ∀ h, h < 12 → N 115 h = nI (wO D 0 (D 4) (D 0 4) h) := w2
    have one1 : ∀ N : gM, f_X9_one (nI 1) N = some (nI 1) := fun N => by
      unfold f_X9_one
      rw [if_neg (by decide)]
      rfl
    have one0 : ∀ N : gM, f_X9_one (nI 0) N = some (nI 0) := fun N => by
      unfold f_X9_one
      rw [if_pos (by decide)]
      rfl
    obtain ⟨N2, ⟨g1, g2, g4⟩, g3⟩ := up_inv (fun q p (N : gM) => f_X9_pass_h30 F q (nI (tP D 0 (D 4) (D 0 4))) (nI p) N) (D 0 0) (fun i N' => (∀ p, p < i → N' 96 p = nI (D 3 p - (D 5 p + wcN D p 12) / 10) ∧ N' 96 (20 + p) = nI ((D 5 p + wcN D p 12) % 10)) ∧ (∀ k j, ¬ (k = 96 ∧ (j < D 0 0 ∨ 20 ≤ j ∧ j < 20 + D 0 0)) → N' k j = N k j) ∧ (∀ p, i ≤ p → p < D 0 0 → N' 96 p = nI (D 3 p) ∧ N' 96 (20 + p) = nI (D 5 p))) (by
      rintro q p N' hp ⟨u1, u2, u3⟩
      obtain ⟨v1, v2⟩ := u3 p (Nat.le_refl _) hp
      have b5 := hb5 p (by omega)
      have b3 := (hb3 p hp).1
      obtain ⟨N3, ⟨r1, r2⟩, r3⟩ := up_inv (fun q' h (N : gM) => f_X9_pass_h42 F (f_X9_pass_h30 F q) q' (nI (tP D 0 (D 4) (D 0 4))) (nI p) (nI h) N) 12 (fun h N3 => N3 96 (20 + p) = nI (D 5 p + wcN D p h) ∧ (∀ k j, ¬ (k = 96 ∧ j = 20 + p) → N3 k j = N' k j)) (by
        rintro q' h N3 hh ⟨y1, y2⟩
        have x1 : N3 115 h = nI (wO D 0 (D 4) (D 0 4) h) := by rw [y2 _ _ (by omega), u2 _ _ (by omega)]; exact w2' h hh
        have x2 := e9_has (a := wO D 0 (D 4) (D 0 4) h) (j := p) (by have := (wO_ok hW hlt hh).1; omega) (by omega) N3
        have x3 := wcN_le D p h
        have es : D 5 p + wcN D p (h + 1) = D 5 p + wcN D p h + (if (wO D 0 (D 4) (D 0 4) h).testBit p then 1 else 0) := by rw [wcN_s, Nat.add_assoc]
        refine ⟨gst N3 96 (20 + p) (nI (D 5 p + wcN D p (h + 1))), ⟨by rw [gst_v, if_pos ⟨rfl, rfl⟩], fun k j h1 => by rw [gst_v, if_neg h1]; exact y2 k j h1⟩, ?_⟩
        rw [es]
        show f_X9_pass_h42_b F _ _ _ _ _ _ = _
        unfold f_X9_pass_h42_b
        generalize wcN D p h = X at *
        cases c : (wO D 0 (D 4) (D 0 4) h).testBit p
        · simp (disch := omega) only [pn_lt, pn_ltM, pl_ofN, ↓pl_m1, pl_lit, fa_litL, pn_bs, ck_n, ckh_n, ck_t, ckh_t, nI_add, nI_clamp, nI_ltI, nI_leI, nI_eq, m1_eq, m1_eq2, m1_lt, m1_le, m1_lt2, m1_le2, m1_m1, nI_m1, nI_subn, gb_n, Nat.add_zero, Nat.zero_add, Nat.zero_or, Nat.or_zero, nle_f, nle_t, nlt_f, nlt_t, neq_f, neq_t, Bool.false_eq_true, eq_self, if_true, if_false, ite_true, ite_false, and_true, true_and, and_false, false_and, decide_true, decide_false, Bool.and_true, Bool.true_and, Bool.and_false, Bool.false_and, Bool.or_false, Bool.false_or, Bool.or_true, Bool.true_or, Bool.not_true, Bool.not_false, not_true_eq_false, not_false_eq_true, x1, x2, c, one0, y1]
        · simp (disch := omega) only [pn_lt, pn_ltM, pl_ofN, ↓pl_m1, pl_lit, fa_litL, pn_bs, ck_n, ckh_n, ck_t, ckh_t, nI_add, nI_clamp, nI_ltI, nI_leI, nI_eq, m1_eq, m1_eq2, m1_lt, m1_le, m1_lt2, m1_le2, m1_m1, nI_m1, nI_subn, gb_n, Nat.add_zero, Nat.zero_add, Nat.zero_or, Nat.or_zero, nle_f, nle_t, nlt_f, nlt_t, neq_f, neq_t, Bool.false_eq_true, eq_self, if_true, if_false, ite_true, ite_false, and_true, true_and, and_false, false_and, decide_true, decide_false, Bool.and_true, Bool.true_and, Bool.and_false, Bool.false_and, Bool.or_false, Bool.false_or, Bool.or_true, Bool.true_or, Bool.not_true, Bool.not_false, not_true_eq_false, not_false_eq_true, x1, x2, c, one1, y1]) 12 0 N' F (by omega) (by omega) ⟨v2, fun _ _ _ => rfl⟩
      have x3 := wcN_le D p 12
      obtain ⟨N4, s1, s2, s3, s4⟩ := e9_out1 (F := F) (f_X9_pass_h30 F q) (nI (tP D 0 (D 4) (D 0 4))) (show p < 10 by omega) 2 F (D 5 p + wcN D p 12) (D 3 p) N3 r1 (by rw [r2 _ _ (by omega)]; exact v1) b3 (by omega) (by omega) (by omega)
      refine ⟨N4, ⟨fun p' h1 => ?_, fun k j h1 => ?_, fun p' h1 h2 => ?_⟩, ?_⟩
      · by_cases e : p' = p
        · subst e
          exact ⟨s3, s2⟩
        · obtain ⟨y1, y2⟩ := u1 p' (by omega)
          exact ⟨by rw [s4 _ _ (by omega), r2 _ _ (by omega)]; exact y1, by rw [s4 _ _ (by omega), r2 _ _ (by omega)]; exact y2⟩
      · rw [s4 _ _ (by omega), r2 _ _ (by omega), u2 k j h1]
      · obtain ⟨y1, y2⟩ := u3 p' (by omega) h2
        exact ⟨by rw [s4 _ _ (by omega), r2 _ _ (by omega)]; exact y1, by rw [s4 _ _ (by omega), r2 _ _ (by omega)]; exact y2⟩
      · have h108' : N' 108 0 = nI (D 0 0) := by rw [u2 _ _ (by omega)]; exact h108
        show f_X9_pass_h30_b F _ _ _ _ = _
        unfold f_X9_pass_h30_b
        rw [show (0 : Int32) = nI 0 from rfl, ck_n _ (by omega) (by omega), nI_clamp (by omega), h108', if_neg (by rw [nI_leI (by omega) (by omega)]; omega)]
        refine r3.trans ?_
        obtain ⟨n', en⟩ : ∃ n', F - 12 = n' + 1 := ⟨F - 13, by omega⟩
        rw [en]
        show f_X9_pass_h42_b F _ _ _ _ _ _ = _
        unfold f_X9_pass_h42_b
        rw [if_pos (by rw [show (12 : Int32) = nI 12 from rfl, nI_leI (by omega) (by omega)]; omega)]
        exact s1) (D 0 0) 0 N F (by omega) (by omega) ⟨fun p hp => absurd hp (Nat.not_lt_zero _), fun _ _ _ => rfl, fun p _ hp => ⟨(a4 p hp).1, (a4 p hp).2.2⟩⟩
    have e30 : N2 96 30 = nI (D 0 5) := by rw [g2 _ _ (by omega)]; exact a1
    have hb2 := hW.2.2.2.2.1
    have eR : dyR D = tP D 0 (D 4) (D 0 4) := by unfold dyR; rw [if_neg z]
    have e05 : dyD D 0 5 = if D 0 5 + tP D 0 (D 4) (D 0 4) ≤ 999999999 then D 0 5 + tP D 0 (D 4) (D 0 4) else 999999999 := by
      unfold dyD
      rw [if_neg z, if_pos ⟨rfl, rfl⟩]
    have hh108 : N2 108 0 = nI (D 0 0) := by rw [g2 _ _ (by omega)]; exact h108
    refine ⟨gst N2 96 30 (nI (dyD D 0 5)), ?_, ?_, ?_, fun k j h1 h2 => ?_⟩
    · rw [w1, pn_bs]
      refine g3.trans ?_
      obtain ⟨n', en⟩ : ∃ n', F - D 0 0 = n' + 1 := ⟨F - D 0 0 - 1, by omega⟩
      rw [en]
      show f_X9_pass_h30_b F _ _ _ _ = _
      unfold f_X9_pass_h30_b
      rw [eR, e05]
      generalize tP D 0 (D 4) (D 0 4) = T at *
      by_cases y : D 0 5 + T ≤ 999999999
      · simp (disch := omega) only [pn_lt, pn_ltM, pl_ofN, ↓pl_m1, pl_lit, fa_litL, pn_bs, ck_n, ckh_n, ck_t, ckh_t, nI_add, nI_clamp, nI_ltI, nI_leI, nI_eq, m1_eq, m1_eq2, m1_lt, m1_le, m1_lt2, m1_le2, m1_m1, nI_m1, nI_subn, gb_n, Nat.add_zero, Nat.zero_add, Nat.zero_or, Nat.or_zero, nle_f, nle_t, nlt_f, nlt_t, neq_f, neq_t, Bool.false_eq_true, eq_self, if_true, if_false, ite_true, ite_false, and_true, true_and, and_false, false_and, decide_true, decide_false, Bool.and_true, Bool.true_and, Bool.and_false, Bool.false_and, Bool.or_false, Bool.false_or, Bool.or_true, Bool.true_or, Bool.not_true, Bool.not_false, not_true_eq_false, not_false_eq_true, hh108, e30, y]
      · simp (disch := omega) only [pn_lt, pn_ltM, pl_ofN, ↓pl_m1, pl_lit, fa_litL, pn_bs, ck_n, ckh_n, ck_t, ckh_t, nI_add, nI_clamp, nI_ltI, nI_leI, nI_eq, m1_eq, m1_eq2, m1_lt, m1_le, m1_lt2, m1_le2, m1_m1, nI_m1, nI_subn, gb_n, Nat.add_zero, Nat.zero_add, Nat.zero_or, Nat.or_zero, nle_f, nle_t, nlt_f, nlt_t, neq_f, neq_t, Bool.false_eq_true, eq_self, if_true, if_false, ite_true, ite_false, and_true, true_and, and_false, false_and, decide_true, decide_false, Bool.and_true, Bool.true_and, Bool.and_false, Bool.false_and, Bool.or_false, Bool.false_or, Bool.or_true, Bool.true_or, Bool.not_true, Bool.not_false, not_true_eq_false, not_false_eq_true, hh108, e30, y]
    · refine ⟨by rw [gst_v, if_pos ⟨rfl, rfl⟩], ?_, ?_, fun p hp => ⟨?_, ?_, ?_⟩⟩
      · rw [gst_v, if_neg (by omega), g2 _ _ (by omega), dyD_ch (by omega) (by omega) (by omega)]; exact a2
      · rw [gst_v, if_neg (by omega), g2 _ _ (by omega), dyD_ch (by omega) (by omega) (by omega)]; exact a3
      · rw [gst_v, if_neg (by omega), (g1 p hp).1]
        unfold dyD
        rw [if_neg z, if_neg (by omega), if_pos rfl]
      · rw [gst_v, if_neg (by omega), g2 _ _ (by omega), dyD_ch (by omega) (by omega) (by omega)]; exact (a4 p hp).2.1
      · rw [gst_v, if_neg (by omega), (g1 p hp).2]
        unfold dyD
        rw [if_neg z, if_neg (by omega), if_neg (by omega), if_pos rfl]
    · rw [gst_v, if_neg (by omega), g2 _ _ (by omega), w3 _ (by omega), gst_v, if_pos ⟨rfl, rfl⟩, e32]
    · rw [gst_v, if_neg (by omega), g2 _ _ (by omega), w3 k (by omega), fC _ _ (by omega)]
      exact c4 k j (by omega)
end EV
