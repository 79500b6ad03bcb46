/-! draws -/
def sdN (s : Nat) : Nat := (s * 1103515245 + 12345) % 2147483648
def pvN (d v : Nat) : Nat := if d = 0 then (if v + 1 ≤ 99 then v + 1 else 99) else if d = 1 then v - 1 else v
theorem sdN_lt (s : Nat) : sdN s < 2 ^ 31 := Nat.mod_lt _ (by decide)
theorem pvN_le {d v : Nat} (h : v ≤ 99) : pvN d v ≤ 99 := by
  unfold pvN
  split
  · split <;> omega
  · split <;> omega
/-- k parts drawn for -/
def drD (D : Nat → Nat → Nat) : Nat → Nat → Nat → Nat
  | 0 => D
  | p + 1 => dset (dset (drD D p) 0 10 (sdN (drD D p 0 10))) 4 p (pvN (sdN (drD D p 0 10) / 65536 % 4) (D 4 p))
theorem drD_s (D : Nat → Nat → Nat) (p : Nat) : drD D (p + 1) = dset (dset (drD D p) 0 10 (sdN (drD D p 0 10))) 4 p (pvN (sdN (drD D p 0 10) / 65536 % 4) (D 4 p)) := rfl
theorem drD_ch {D : Nat → Nat → Nat} {c i : Nat} (h : ¬ (c = 0 ∧ i = 10)) (h4 : c ≠ 4) : ∀ k, drD D k c i = D c i
  | 0 => rfl
  | k + 1 => by
    rw [drD_s, dset_v, if_neg (by omega), dset_v, if_neg h]
    exact drD_ch h h4 k
theorem drD_4 {D : Nat → Nat → Nat} {i : Nat} : ∀ k, k ≤ i → drD D k 4 i = D 4 i
  | 0, _ => rfl
  | k + 1, h => by
    rw [drD_s, dset_v, if_neg (by omega), dset_v, if_neg (by omega)]
    exact drD_4 k (by omega)
theorem drD_WF {D : Nat → Nat → Nat} (hW : qWF D) : ∀ k, qWF (drD D k) ∧ drD D k 0 0 = D 0 0 := by
  intro k
  have e0 : drD D k 0 0 = D 0 0 := drD_ch (by omega) (by omega) k
  have b10 : ∀ k, drD D k 0 10 < 2 ^ 31
    | 0 => hW.2.2.2.2.2.1
    | k + 1 => by
      rw [drD_s, dset_v, if_neg (by omega), dset_v, if_pos ⟨rfl, rfl⟩]
      exact sdN_lt _
  have b4 : ∀ k p, p < D 0 0 → drD D k 4 p ≤ 99 := by
    intro k
    induction k with
    | zero => exact fun p hp => (hW.2.2.2.2.2.2.1 p hp).2
    | succ k ih =>
      intro p hp
      rw [drD_s, dset_v]
      by_cases e : p = k
      · rw [if_pos ⟨rfl, e⟩, ← e]
        exact pvN_le (hW.2.2.2.2.2.2.1 p hp).2
      · rw [if_neg (fun z => e z.2), dset_v, if_neg (by omega)]
        exact ih p hp
  refine ⟨⟨qBT_D hW.1 (fun c i q => drD_ch (by omega) (by omega) k), qBL_D hW.2.1 (fun c i q => drD_ch (by omega) (by omega) k), qBX_D hW.2.2.1 (fun c i q => drD_ch (by omega) (by omega) k), ?_⟩, e0⟩
  rw [e0]
  obtain ⟨c1, c2, c3, c4, c5, c6⟩ := hW.2.2.2
  refine ⟨?_, ?_, b10 k, fun p hp => ⟨?_, b4 k p hp⟩, fun p hp => ?_, fun p h1 h2 => ?_⟩
  · rw [drD_ch (by omega) (by omega)]; exact c1
  · rw [drD_ch (by omega) (by omega)]; exact c2
  · rw [drD_ch (by omega) (by omega)]; exact (c4 p hp).1
  · rw [drD_ch (by omega) (by omega)]; exact c5 p hp
  · rw [drD_ch (by omega) (by omega)]; exact c6 p h1 h2
section EV
variable {F : Nat} {D : Nat → Nat → Nat} {M : gM}
theorem e5_draw {s : Nat} (hs : s < 2 ^ 31) (h : M 26 6 = nI s) : f_X5_drawOfFour 26 M = some (nI (sdN s / 65536 % 4), gst M 26 6 (nI (sdN s))) := by
  have e0 : (nI s).toInt64 * (1103515245 : Int64) + (12345 : Int64) = lN (s * 1103515245 + 12345) := by
    rw [lN_wide hs, show (1103515245 : Int64) = lN 1103515245 from rfl, show (12345 : Int64) = lN 12345 from rfl, lN_mul, lN_add]
  have e1 : lN (s * 1103515245 + 12345) &&& (2147483647 : Int64) = lN (sdN s) := fb_maskL (s * 1103515245 + 12345) 31
  have b := sdN_lt s
  have e2 : nI (sdN s) / nI 65536 = nI (sdN s / 65536) := pk_div b (by omega) (by omega)
  have e3 : nI (sdN s / 65536) - nI (sdN s / 65536) / nI 4 * nI 4 = nI (sdN s / 65536 % 4) := pk_rem (by omega) (by omega) (by omega)
  unfold f_X5_drawOfFour
  rw [h, e0, e1, lN_i, pn_ltM, gst_v, if_pos ⟨rfl, rfl⟩, show (65536 : Int32) = nI 65536 from rfl, show (4 : Int32) = nI 4 from rfl, e2, e3]
theorem e9_draw {s : Nat} (hs : s < 2 ^ 31) (h : M 96 33 = nI s) : f_X9_draw (nI 4) M = some (nI (sdN s / 65536 % 4), gst M 96 33 (nI (sdN s))) := by
  have e0 : (nI s).toInt64 * (1103515245 : Int64) + (12345 : Int64) = lN (s * 1103515245 + 12345) := by
    rw [lN_wide hs, show (1103515245 : Int64) = lN 1103515245 from rfl, show (12345 : Int64) = lN 12345 from rfl, lN_mul, lN_add]
  have e1 : lN (s * 1103515245 + 12345) - lN (s * 1103515245 + 12345) / (2147483648 : Int64) * (2147483648 : Int64) = lN (sdN s) := pk_lRem (a := s * 1103515245 + 12345) (b := 2147483648) (by omega) (by decide) (by decide)
  have b := sdN_lt s
  have e2 : nI (sdN s) / nI 65536 = nI (sdN s / 65536) := pk_div b (by omega) (by omega)
  have e3 : nI (sdN s / 65536) - nI (sdN s / 65536) / nI 4 * nI 4 = nI (sdN s / 65536 % 4) := pk_rem (by omega) (by omega) (by omega)
  have e4 : decide (¬ nI 4 = 0) = true := by decide +kernel
  unfold f_X9_draw
  rw [show (33 : Int32) = nI 33 from rfl, ck_n _ (by omega) (by omega), ck_n _ (by omega) (by omega), nI_clamp (by omega), h, e0, e1, lN_i, pn_ltM, ck_n _ (by omega) (by omega), e4, ck_t, gst_v, if_pos ⟨rfl, rfl⟩, show (65536 : Int32) = nI 65536 from rfl, e2, e3]
theorem e5_draws (hF : 4000 ≤ F) (hW : qWF D) (hS : qS8 (D 0 0) D M) : ∃ M', f_X5_drawPrices F 26 (nI (D 0 0)) M = some M' ∧ qS8 (D 0 0) (drD D (D 0 0)) M' ∧ M' 26 4 = M 26 4 ∧ (∀ k, k ≠ 26 → k ≠ 28 → M' k = M k) := by
  have hn := hW.1.1
  obtain ⟨N, ⟨a1, a2, a4⟩, a3⟩ := up_inv (fun q p (N : gM) => f_X5_drawPrices_h9 F 26 (nI (D 0 0)) q (nI (D 0 0)) (nI p) N) (D 0 0) (fun i N => qS8 (D 0 0) (drD D i) N ∧ N 26 4 = M 26 4 ∧ (∀ k, k ≠ 26 → k ≠ 28 → N k = M k)) (by
    rintro q p N hp ⟨u1, u2, u3⟩
    obtain ⟨b1, b2, b3, b4, b5⟩ := id u1
    have bs := ((drD_WF hW p).1).2.2.2.2.2.1
    have hd := e5_draw bs b3
    have v1 : N 28 p = nI (D 4 p) := by rw [(b4 p hp).2, drD_4 p (Nat.le_refl _)]
    have v2 := (hW.2.2.2.2.2.2.1 p hp).2
    have r1 : rf 26 1 = 28 := rfl
    have hd4 : sdN (drD D p 0 10) / 65536 % 4 < 4 := Nat.mod_lt _ (by omega)
    have hst : ∀ i c, c ≠ 4 → ¬ (c = 0 ∧ i = 10) → drD D (p + 1) c i = drD D p c i := fun i c h1 h2 => by
      rw [drD_s, dset_v, if_neg (by omega), dset_v, if_neg h2]
    refine ⟨gst (gst N 26 6 (nI (sdN (drD D p 0 10)))) 28 p (nI (pvN (sdN (drD D p 0 10) / 65536 % 4) (D 4 p))), ⟨⟨?_, ?_, ?_, fun p' hp' => ⟨?_, ?_⟩, fun p' hp' => ?_⟩, ?_, fun k h1 h2 => by rw [gst_ne _ _ _ _ h2, gst_ne _ _ _ _ h1, u3 k h1 h2]⟩, ?_⟩
    · rw [gst_v, if_neg (by omega), gst_v, if_neg (by omega), hst _ _ (by omega) (by omega)]; exact b1
    · rw [gst_v, if_neg (by omega), gst_v, if_neg (by omega), hst _ _ (by omega) (by omega)]; exact b2
    · rw [gst_v, if_neg (by omega), gst_v, if_pos ⟨rfl, rfl⟩, drD_s, dset_v, if_neg (by omega), dset_v, if_pos ⟨rfl, rfl⟩]
    · rw [gst_v, if_neg (by omega), gst_v, if_neg (by omega), hst _ _ (by omega) (by omega)]; exact (b4 p' hp').1
    · rw [gst_v, drD_s, dset_v]
      by_cases e : p' = p
      · rw [if_pos ⟨rfl, e⟩, if_pos ⟨rfl, e⟩]
      · rw [if_neg (fun z => e z.2), if_neg (fun z => e z.2), gst_v, if_neg (by omega), dset_v, if_neg (by omega)]
        exact (b4 p' hp').2
    · rw [gst_v, if_neg (by omega), gst_v, if_neg (by omega), hst _ _ (by omega) (by omega)]; exact b5 p' hp'
    · rw [gst_v, if_neg (by omega), gst_v, if_neg (by omega)]; exact u2
    · show f_X5_drawPrices_h9_b F _ _ _ _ _ _ = _
      unfold f_X5_drawPrices_h9_b pvN
      generalize sdN (drD D p 0 10) / 65536 % 4 = d at *
      generalize sdN (drD D p 0 10) = s at *
      have hsame : gst (gst N 26 6 (nI s)) 28 p (nI (D 4 p)) = gst N 26 6 (nI s) := by
        funext k i
        rw [gst_v]
        by_cases e : k = 28 ∧ i = p
        · rw [if_pos e, e.1, e.2, gst_v, if_neg (by omega), v1]
        · rw [if_neg e]
      rcases (by omega : d = 0 ∨ d = 1 ∨ d = 2 ∨ d = 3) with e | e | e | e <;> subst e
      · by_cases c3 : D 4 p + 1 < 99
        · simp (disch := omega) only [pn_lt, pn_ltM, pl_ofN, ↓pl_m1, pl_lit, fa_litL, pn_bs, ck_n, ckh_n, ck_t, ckh_t, nI_add, nI_clamp, nI_ltI, nI_leI, nI_eq, m1_eq, m1_eq2, m1_lt, m1_le, m1_lt2, m1_le2, m1_m1, nI_m1, nI_subn, gb_n, Nat.add_zero, Nat.zero_add, Nat.zero_or, Nat.or_zero, nle_f, nle_t, nlt_f, nlt_t, neq_f, neq_t, Bool.false_eq_true, eq_self, if_true, if_false, ite_true, ite_false, and_true, true_and, and_false, false_and, decide_true, decide_false, Bool.and_true, Bool.true_and, Bool.and_false, Bool.false_and, Bool.or_false, Bool.false_or, Bool.or_true, Bool.true_or, Bool.not_true, Bool.not_false, not_true_eq_false, not_false_eq_true, hd, r1, gst_v, v1, c3]
        · by_cases c4 : D 4 p + 1 = 99
          · simp (disch := omega) only [pn_lt, pn_ltM, pl_ofN, ↓pl_m1, pl_lit, fa_litL, pn_bs, ck_n, ckh_n, ck_t, ckh_t, nI_add, nI_clamp, nI_ltI, nI_leI, nI_eq, m1_eq, m1_eq2, m1_lt, m1_le, m1_lt2, m1_le2, m1_m1, nI_m1, nI_subn, gb_n, Nat.add_zero, Nat.zero_add, Nat.zero_or, Nat.or_zero, nle_f, nle_t, nlt_f, nlt_t, neq_f, neq_t, Bool.false_eq_true, eq_self, if_true, if_false, ite_true, ite_false, and_true, true_and, and_false, false_and, decide_true, decide_false, Bool.and_true, Bool.true_and, Bool.and_false, Bool.false_and, Bool.or_false, Bool.false_or, Bool.or_true, Bool.true_or, Bool.not_true, Bool.not_false, not_true_eq_false, not_false_eq_true, hd, r1, gst_v, v1, c4]
          · simp (disch := omega) only [pn_lt, pn_ltM, pl_ofN, ↓pl_m1, pl_lit, fa_litL, pn_bs, ck_n, ckh_n, ck_t, ckh_t, nI_add, nI_clamp, nI_ltI, nI_leI, nI_eq, m1_eq, m1_eq2, m1_lt, m1_le, m1_lt2, m1_le2, m1_m1, nI_m1, nI_subn, gb_n, Nat.add_zero, Nat.zero_add, Nat.zero_or, Nat.or_zero, nle_f, nle_t, nlt_f, nlt_t, neq_f, neq_t, Bool.false_eq_true, eq_self, if_true, if_false, ite_true, ite_false, and_true, true_and, and_false, false_and, decide_true, decide_false, Bool.and_true, Bool.true_and, Bool.and_false, Bool.false_and, Bool.or_false, Bool.false_or, Bool.or_true, Bool.true_or, Bool.not_true, Bool.not_false, not_true_eq_false, not_false_eq_true, hd, r1, gst_v, v1]
      · by_cases c3 : D 4 p = 0
        · have e1 : nI 0 - nI 1 = m1 := by decide +kernel
          simp (disch := omega) only [pn_lt, pn_ltM, pl_ofN, ↓pl_m1, pl_lit, fa_litL, pn_bs, ck_n, ckh_n, ck_t, ckh_t, nI_add, nI_clamp, nI_ltI, nI_leI, nI_eq, m1_eq, m1_eq2, m1_lt, m1_le, m1_lt2, m1_le2, m1_m1, nI_m1, nI_subn, gb_n, Nat.add_zero, Nat.zero_add, Nat.zero_or, Nat.or_zero, nle_f, nle_t, nlt_f, nlt_t, neq_f, neq_t, Bool.false_eq_true, eq_self, if_true, if_false, ite_true, ite_false, and_true, true_and, and_false, false_and, decide_true, decide_false, Bool.and_true, Bool.true_and, Bool.and_false, Bool.false_and, Bool.or_false, Bool.false_or, Bool.or_true, Bool.true_or, Bool.not_true, Bool.not_false, not_true_eq_false, not_false_eq_true, hd, r1, gst_v, v1, c3, e1, Nat.zero_sub]
        · have e1 : nI (D 4 p) - nI 1 = nI (D 4 p - 1) := nI_subn (by omega)
          by_cases c4 : D 4 p - 1 = 0
          · simp (disch := omega) only [pn_lt, pn_ltM, pl_ofN, ↓pl_m1, pl_lit, fa_litL, pn_bs, ck_n, ckh_n, ck_t, ckh_t, nI_add, nI_clamp, nI_ltI, nI_leI, nI_eq, m1_eq, m1_eq2, m1_lt, m1_le, m1_lt2, m1_le2, m1_m1, nI_m1, nI_subn, gb_n, Nat.add_zero, Nat.zero_add, Nat.zero_or, Nat.or_zero, nle_f, nle_t, nlt_f, nlt_t, neq_f, neq_t, Bool.false_eq_true, eq_self, if_true, if_false, ite_true, ite_false, and_true, true_and, and_false, false_and, decide_true, decide_false, Bool.and_true, Bool.true_and, Bool.and_false, Bool.false_and, Bool.or_false, Bool.false_or, Bool.or_true, Bool.true_or, Bool.not_true, Bool.not_false, not_true_eq_false, not_false_eq_true, hd, r1, gst_v, v1, e1, c4]
          · simp (disch := omega) only [pn_lt, pn_ltM, pl_ofN, ↓pl_m1, pl_lit, fa_litL, pn_bs, ck_n, ckh_n, ck_t, ckh_t, nI_add, nI_clamp, nI_ltI, nI_leI, nI_eq, m1_eq, m1_eq2, m1_lt, m1_le, m1_lt2, m1_le2, m1_m1, nI_m1, nI_subn, gb_n, Nat.add_zero, Nat.zero_add, Nat.zero_or, Nat.or_zero, nle_f, nle_t, nlt_f, nlt_t, neq_f, neq_t, Bool.false_eq_true, eq_self, if_true, if_false, ite_true, ite_false, and_true, true_and, and_false, false_and, decide_true, decide_false, Bool.and_true, Bool.true_and, Bool.and_false, Bool.false_and, Bool.or_false, Bool.false_or, Bool.or_true, Bool.true_or, Bool.not_true, Bool.not_false, not_true_eq_false, not_false_eq_true, hd, r1, gst_v, v1, e1]
      · simp (disch := omega) only [pn_lt, pn_ltM, pl_ofN, ↓pl_m1, pl_lit, fa_litL, pn_bs, ck_n, ckh_n, ck_t, ckh_t, nI_add, nI_clamp, nI_ltI, nI_leI, nI_eq, m1_eq, m1_eq2, m1_lt, m1_le, m1_lt2, m1_le2, m1_m1, nI_m1, nI_subn, gb_n, Nat.add_zero, Nat.zero_add, Nat.zero_or, Nat.or_zero, nle_f, nle_t, nlt_f, nlt_t, neq_f, neq_t, Bool.false_eq_true, eq_self, if_true, if_false, ite_true, ite_false, and_true, true_and, and_false, false_and, decide_true, decide_false, Bool.and_true, Bool.true_and, Bool.and_false, Bool.false_and, Bool.or_false, Bool.false_or, Bool.or_true, Bool.true_or, Bool.not_true, Bool.not_false, not_true_eq_false, not_false_eq_true, hd, hsame]
      · simp (disch := omega) only [pn_lt, pn_ltM, pl_ofN, ↓pl_m1, pl_lit, fa_litL, pn_bs, ck_n, ckh_n, ck_t, ckh_t, nI_add, nI_clamp, nI_ltI, nI_leI, nI_eq, m1_eq, m1_eq2, m1_lt, m1_le, m1_lt2, m1_le2, m1_m1, nI_m1, nI_subn, gb_n, Nat.add_zero, Nat.zero_add, Nat.zero_or, Nat.or_zero, nle_f, nle_t, nlt_f, nlt_t, neq_f, neq_t, Bool.false_eq_true, eq_self, if_true, if_false, ite_true, ite_false, and_true, true_and, and_false, false_and, decide_true, decide_false, Bool.and_true, Bool.true_and, Bool.and_false, Bool.false_and, Bool.or_false, Bool.false_or, Bool.or_true, Bool.true_or, Bool.not_true, Bool.not_false, not_true_eq_false, not_false_eq_true, hd, hsame]) (D 0 0) 0 M F (by omega) (by omega) ⟨hS, rfl, fun _ _ _ => rfl⟩
  refine ⟨N, ?_, a1, a2, a4⟩
  unfold f_X5_drawPrices
  have e : (if (10 : Int32) < nI (D 0 0) then (10 : Int32) else nI (D 0 0)) = nI (D 0 0) := if_neg (by rw [show (10 : Int32) = nI 10 from rfl, nI_ltI (by omega) (by omega)]; omega)
  rw [e, pn_lt]
  refine a3.trans ?_
  obtain ⟨n', en⟩ : ∃ n', F - D 0 0 = n' + 1 := ⟨F - D 0 0 - 1, by omega⟩
  rw [en]
  show f_X5_drawPrices_h9_b F _ _ _ _ _ _ = _
  unfold f_X5_drawPrices_h9_b
  simp (disch := omega) only [pn_lt, pn_ltM, pl_ofN, ↓pl_m1, pl_lit, fa_litL, pn_bs, ck_n, ckh_n, ck_t, ckh_t, nI_add, nI_clamp, nI_ltI, nI_leI, nI_eq, m1_eq, m1_eq2, m1_lt, m1_le, m1_lt2, m1_le2, m1_m1, nI_m1, nI_subn, gb_n, Nat.add_zero, Nat.zero_add, Nat.zero_or, Nat.or_zero, nle_f, nle_t, nlt_f, nlt_t, neq_f, neq_t, Bool.false_eq_true, eq_self, if_true, if_false, ite_true, ite_false, and_true, true_and, and_false, false_and, decide_true, decide_false, Bool.and_true, Bool.true_and, Bool.and_false, Bool.false_and, Bool.or_false, Bool.false_or, Bool.or_true, Bool.true_or, Bool.not_true, Bool.not_false, not_true_eq_false, not_false_eq_true]
/-- the model's draws, up to the day -/
theorem e9_draws (hF : 4000 ≤ F) (hW : qWF D) (hQ : qMR D 0 M) (a0 : Int32) (k19 : Int32 → Int32 → gM → Option (Int32 × gM)) (x2 x3 : Int32) :
    ∃ M', f_X9_drift_h27 F a0 k19 F x2 x3 (nI 0) M = ((f_X9_pass F M').bind fun r2 => k19 (x2 + r2.1) (x3 + 1) r2.2) ∧ qS9 (D 0 0) (drD D (D 0 0)) M' ∧ M' 96 32 = M 96 32 ∧ (∀ k j, ¬ (k = 96 ∧ (j = 33 ∨ 10 ≤ j ∧ j < 20)) → M' k j = M k j) := by
  have hn := hW.1.1
  obtain ⟨N, ⟨a1, a2, a4⟩, a3⟩ := up_inv (fun q p (N : gM) => f_X9_drift_h27 F a0 k19 q x2 x3 (nI p) N) (D 0 0) (fun i N => qS9 (D 0 0) (drD D i) N ∧ N 96 32 = M 96 32 ∧ (∀ k j, ¬ (k = 96 ∧ (j = 33 ∨ 10 ≤ j ∧ j < 20)) → N k j = M k j)) (by
    rintro q p N hp ⟨u1, u2, u3⟩
    obtain ⟨b1, b2, b3, b4⟩ := id u1
    have bs := ((drD_WF hW p).1).2.2.2.2.2.1
    have hd := e9_draw bs b3
    have v1 : N 96 (10 + p) = nI (D 4 p) := by rw [(b4 p hp).2.1, drD_4 p (Nat.le_refl _)]
    have v2 := (hW.2.2.2.2.2.2.1 p hp).2
    have v0 : N 108 0 = nI (D 0 0) := by rw [u3 _ _ (by omega)]; exact hQ.1.2.2.2.1
    have hd4 : sdN (drD D p 0 10) / 65536 % 4 < 4 := Nat.mod_lt _ (by omega)
    have hst : ∀ i c, c ≠ 4 → ¬ (c = 0 ∧ i = 10) → drD D (p + 1) c i = drD D p c i := fun i c h1 h2 => by
      rw [drD_s, dset_v, if_neg (by omega), dset_v, if_neg h2]
    refine ⟨gst (gst N 96 33 (nI (sdN (drD D p 0 10)))) 96 (10 + p) (nI (pvN (sdN (drD D p 0 10) / 65536 % 4) (D 4 p))), ⟨⟨?_, ?_, ?_, fun p' hp' => ⟨?_, ?_, ?_⟩⟩, ?_, fun k j h1 => by rw [gst_v, if_neg (by omega), gst_v, if_neg (by omega)]; exact u3 k j h1⟩, ?_⟩
    · rw [gst_v, if_neg (by omega), gst_v, if_neg (by omega), hst _ _ (by omega) (by omega)]; exact b1
    · rw [gst_v, if_neg (by omega), gst_v, if_neg (by omega), hst _ _ (by omega) (by omega)]; exact b2
    · rw [gst_v, if_neg (by omega), gst_v, if_pos ⟨rfl, rfl⟩, drD_s, dset_v, if_neg (by omega), dset_v, if_pos ⟨rfl, rfl⟩]
    · rw [gst_v, if_neg (by omega), gst_v, if_neg (by omega), hst _ _ (by omega) (by omega)]; exact (b4 p' hp').1
    · rw [gst_v, drD_s, dset_v]
      by_cases e : p' = p
      · rw [if_pos ⟨rfl, by omega⟩, if_pos ⟨rfl, e⟩]
      · rw [if_neg (by omega), if_neg (fun z => e z.2), gst_v, if_neg (by omega), dset_v, if_neg (by omega)]
        exact (b4 p' hp').2.1
    · rw [gst_v, if_neg (by omega), gst_v, if_neg (by omega), hst _ _ (by omega) (by omega)]; exact (b4 p' hp').2.2
    · rw [gst_v, if_neg (by omega), gst_v, if_neg (by omega)]; exact u2
    · show f_X9_drift_h27_b F _ _ _ _ _ _ _ = _
      unfold f_X9_drift_h27_b f_X9_drift_b75 pvN
      generalize sdN (drD D p 0 10) / 65536 % 4 = d at *
      generalize sdN (drD D p 0 10) = s at *
      rcases (by omega : d = 0 ∨ d = 1 ∨ d = 2 ∨ d = 3) with e | e | e | e <;> subst e
      · by_cases c3 : D 4 p + 1 ≤ 99
        · simp (disch := omega) only [pn_lt, pn_ltM, pl_ofN, ↓pl_m1, pl_lit, fa_litL, pn_bs, ck_n, ckh_n, ck_t, ckh_t, nI_add, nI_clamp, nI_ltI, nI_leI, nI_eq, m1_eq, m1_eq2, m1_lt, m1_le, m1_lt2, m1_le2, m1_m1, nI_m1, nI_subn, gb_n, Nat.add_zero, Nat.zero_add, Nat.zero_or, Nat.or_zero, nle_f, nle_t, nlt_f, nlt_t, neq_f, neq_t, Bool.false_eq_true, eq_self, if_true, if_false, ite_true, ite_false, and_true, true_and, and_false, false_and, decide_true, decide_false, Bool.and_true, Bool.true_and, Bool.and_false, Bool.false_and, Bool.or_false, Bool.false_or, Bool.or_true, Bool.true_or, Bool.not_true, Bool.not_false, not_true_eq_false, not_false_eq_true, v0, hd, gst_v, v1, c3]
        · simp (disch := omega) only [pn_lt, pn_ltM, pl_ofN, ↓pl_m1, pl_lit, fa_litL, pn_bs, ck_n, ckh_n, ck_t, ckh_t, nI_add, nI_clamp, nI_ltI, nI_leI, nI_eq, m1_eq, m1_eq2, m1_lt, m1_le, m1_lt2, m1_le2, m1_m1, nI_m1, nI_subn, gb_n, Nat.add_zero, Nat.zero_add, Nat.zero_or, Nat.or_zero, nle_f, nle_t, nlt_f, nlt_t, neq_f, neq_t, Bool.false_eq_true, eq_self, if_true, if_false, ite_true, ite_false, and_true, true_and, and_false, false_and, decide_true, decide_false, Bool.and_true, Bool.true_and, Bool.and_false, Bool.false_and, Bool.or_false, Bool.false_or, Bool.or_true, Bool.true_or, Bool.not_true, Bool.not_false, not_true_eq_false, not_false_eq_true, v0, hd, gst_v, v1, c3]
      · by_cases c3 : D 4 p = 0
        · have e1 : nI 0 + m1 = m1 := by decide +kernel
          simp (disch := omega) only [pn_lt, pn_ltM, pl_ofN, ↓pl_m1, pl_lit, fa_litL, pn_bs, ck_n, ckh_n, ck_t, ckh_t, nI_add, nI_clamp, nI_ltI, nI_leI, nI_eq, m1_eq, m1_eq2, m1_lt, m1_le, m1_lt2, m1_le2, m1_m1, nI_m1, nI_subn, gb_n, Nat.add_zero, Nat.zero_add, Nat.zero_or, Nat.or_zero, nle_f, nle_t, nlt_f, nlt_t, neq_f, neq_t, Bool.false_eq_true, eq_self, if_true, if_false, ite_true, ite_false, and_true, true_and, and_false, false_and, decide_true, decide_false, Bool.and_true, Bool.true_and, Bool.and_false, Bool.false_and, Bool.or_false, Bool.false_or, Bool.or_true, Bool.true_or, Bool.not_true, Bool.not_false, not_true_eq_false, not_false_eq_true, v0, hd, gst_v, v1, c3, e1, Nat.zero_sub]
        · have e1 : nI (D 4 p) + m1 = nI (D 4 p - 1) := by
            obtain ⟨m, e⟩ : ∃ m, D 4 p = m + 1 := ⟨D 4 p - 1, by omega⟩
            rw [e, m1_m1, Nat.add_sub_cancel]
          simp (disch := omega) only [pn_lt, pn_ltM, pl_ofN, ↓pl_m1, pl_lit, fa_litL, pn_bs, ck_n, ckh_n, ck_t, ckh_t, nI_add, nI_clamp, nI_ltI, nI_leI, nI_eq, m1_eq, m1_eq2, m1_lt, m1_le, m1_lt2, m1_le2, m1_m1, nI_m1, nI_subn, gb_n, Nat.add_zero, Nat.zero_add, Nat.zero_or, Nat.or_zero, nle_f, nle_t, nlt_f, nlt_t, neq_f, neq_t, Bool.false_eq_true, eq_self, if_true, if_false, ite_true, ite_false, and_true, true_and, and_false, false_and, decide_true, decide_false, Bool.and_true, Bool.true_and, Bool.and_false, Bool.false_and, Bool.or_false, Bool.false_or, Bool.or_true, Bool.true_or, Bool.not_true, Bool.not_false, not_true_eq_false, not_false_eq_true, v0, hd, gst_v, v1, e1]
      · simp (disch := omega) only [pn_lt, pn_ltM, pl_ofN, ↓pl_m1, pl_lit, fa_litL, pn_bs, ck_n, ckh_n, ck_t, ckh_t, nI_add, nI_clamp, nI_ltI, nI_leI, nI_eq, m1_eq, m1_eq2, m1_lt, m1_le, m1_lt2, m1_le2, m1_m1, nI_m1, nI_subn, gb_n, Nat.add_zero, Nat.zero_add, Nat.zero_or, Nat.or_zero, nle_f, nle_t, nlt_f, nlt_t, neq_f, neq_t, Bool.false_eq_true, eq_self, if_true, if_false, ite_true, ite_false, and_true, true_and, and_false, false_and, decide_true, decide_false, Bool.and_true, Bool.true_and, Bool.and_false, Bool.false_and, Bool.or_false, Bool.false_or, Bool.or_true, Bool.true_or, Bool.not_true, Bool.not_false, not_true_eq_false, not_false_eq_true, v0, hd, gst_v, v1]
      · simp (disch := omega) only [pn_lt, pn_ltM, pl_ofN, ↓pl_m1, pl_lit, fa_litL, pn_bs, ck_n, ckh_n, ck_t, ckh_t, nI_add, nI_clamp, nI_ltI, nI_leI, nI_eq, m1_eq, m1_eq2, m1_lt, m1_le, m1_lt2, m1_le2, m1_m1, nI_m1, nI_subn, gb_n, Nat.add_zero, Nat.zero_add, Nat.zero_or, Nat.or_zero, nle_f, nle_t, nlt_f, nlt_t, neq_f, neq_t, Bool.false_eq_true, eq_self, if_true, if_false, ite_true, ite_false, and_true, true_and, and_false, false_and, decide_true, decide_false, Bool.and_true, Bool.true_and, Bool.and_false, Bool.false_and, Bool.or_false, Bool.false_or, Bool.or_true, Bool.true_or, Bool.not_true, Bool.not_false, not_true_eq_false, not_false_eq_true, v0, hd, gst_v, v1]) (D 0 0) 0 M F (by omega) (by omega) ⟨hQ.2.2.1, rfl, fun _ _ _ => rfl⟩
  refine ⟨N, a3.trans ?_, a1, a2, a4⟩
  obtain ⟨n', en⟩ : ∃ n', F - D 0 0 = n' + 1 := ⟨F - D 0 0 - 1, by omega⟩
  rw [en]
  show f_X9_drift_h27_b F _ _ _ _ _ _ _ = _
  unfold f_X9_drift_h27_b
  have v0 : N 108 0 = nI (D 0 0) := by rw [a4 _ _ (by omega)]; exact hQ.1.2.2.2.1
  rw [show (0 : Int32) = nI 0 from rfl, ck_n _ (by omega) (by omega), nI_clamp (by omega), v0, if_pos (by rw [nI_leI (by omega) (by omega)]; omega)]
  rfl
end EV
/-! days one after another -/
/-- x and one more, k times -/
def adN (x : Int32) : Nat → Int32
  | 0 => x
  | k + 1 => adN x k + 1
/-- one day, with draws ahead of it (b) or without -/
noncomputable def stD (b : Bool) (D : Nat → Nat → Nat) : Nat → Nat → Nat := if b then dyD (drD D (D 0 0)) else dyD D
noncomputable def stR (b : Bool) (D : Nat → Nat → Nat) : Nat := if b then dyR (drD D (D 0 0)) else dyR D
noncomputable def itD (b : Bool) (D : Nat → Nat → Nat) : Nat → Nat → Nat → Nat
  | 0 => D
  | k + 1 => stD b (itD b D k)
theorem itD_s (b : Bool) (D : Nat → Nat → Nat) (k : Nat) : itD b D (k + 1) = stD b (itD b D k) := rfl
theorem stD_ch {b : Bool} {D : Nat → Nat → Nat} {c i : Nat} (h : ¬ (c = 0 ∧ (i = 5 ∨ i = 10))) (h3 : c ≠ 3) (h4 : c ≠ 4) (h5 : c ≠ 5) : stD b D c i = D c i := by
  unfold stD
  cases b
  · rw [if_neg (by decide)]
    exact dyD_ch (by omega) h3 h5
  · rw [if_pos rfl, dyD_ch (by omega) h3 h5]
    exact drD_ch (by omega) h4 _
theorem stD_WF {b : Bool} {D : Nat → Nat → Nat} (hW : qWF D) : qWF (stD b D) := by
  unfold stD
  cases b
  · rw [if_neg (by decide)]
    exact (dyD_WF hW).1
  · rw [if_pos rfl]
    exact (dyD_WF (drD_WF hW _).1).1
theorem itD_ch {b : Bool} {D : Nat → Nat → Nat} {c i : Nat} (h : ¬ (c = 0 ∧ (i = 5 ∨ i = 10))) (h3 : c ≠ 3) (h4 : c ≠ 4) (h5 : c ≠ 5) : ∀ k, itD b D k c i = D c i
  | 0 => rfl
  | k + 1 => by
    rw [itD_s, stD_ch h h3 h4 h5]
    exact itD_ch h h3 h4 h5 k
theorem itD_WF {b : Bool} {D : Nat → Nat → Nat} (hW : qWF D) : ∀ k, qWF (itD b D k)
  | 0 => hW
  | k + 1 => stD_WF (itD_WF hW k)
theorem qDR_D {D D' : Nat → Nat → Nat} {M : gM} (h : qDR D M) (e : ∀ c i, ¬ (c = 0 ∧ (i = 5 ∨ i = 10)) → c ≠ 3 → c ≠ 4 → c ≠ 5 → D' c i = D c i) (hS : qS8 (D 0 0) D' M) : qDR D' M := by
  refine ⟨qTW_D h.1 (fun c i q => e c i (by omega) (by omega) (by omega) (by omega)), qLK_D h.2.1 (fun c i q => e c i (by omega) (by omega) (by omega) (by omega)), ?_⟩
  rw [e 0 0 (by omega) (by omega) (by omega) (by omega)]
  exact hS
theorem qMR_D {D D' : Nat → Nat → Nat} {bn : Nat} {M : gM} (h : qMR D bn M) (e : ∀ c i, ¬ (c = 0 ∧ (i = 5 ∨ i = 10)) → c ≠ 3 → c ≠ 4 → c ≠ 5 → D' c i = D c i) (hS : qS9 (D 0 0) D' M) : qMR D' bn M := by
  refine ⟨qTW_D h.1 (fun c i q => e c i (by omega) (by omega) (by omega) (by omega)), qLK_D h.2.1 (fun c i q => e c i (by omega) (by omega) (by omega) (by omega)), ?_, h.2.2.2⟩
  rw [e 0 0 (by omega) (by omega) (by omega) (by omega)]
  exact hS
section EV
variable {F : Nat} {D : Nat → Nat → Nat} {M : gM}
/-- another state of the same town -/
theorem qDR_W {D D' : Nat → Nat → Nat} {M M' : gM} (hW : qWF D) (h : qDR D M) (e : ∀ k j, (k < 26 ∨ 29 < k ∧ k < 43 ∨ 87 < k) → M' k j = M k j) (ed : ∀ c i, ¬ (c = 0 ∧ (i = 5 ∨ i = 10)) → c ≠ 3 → c ≠ 4 → c ≠ 5 → D' c i = D c i) (hS : qS8 (D 0 0) D' M') : qDR D' M' := by
  refine ⟨qTW_D (qTW_fr h.1 hW.1.1 hW.1.2.1 (fun k j q => e k j (by omega))) (fun c i q => ed c i (by omega) (by omega) (by omega) (by omega)), qLK_D (qLK_fr h.2.1 (fun k j q => e k j (by omega))) (fun c i q => ed c i (by omega) (by omega) (by omega) (by omega)), ?_⟩
  rw [ed 0 0 (by omega) (by omega) (by omega) (by omega)]
  exact hS
theorem qMR_W {D D' : Nat → Nat → Nat} {bn : Nat} {M M' : gM} (hW : qWF D) (h : qMR D bn M) (e : ∀ k j, ¬ (k = 96 ∧ j < 40) → (k < 111 ∨ 115 < k) → M' k j = M k j) (ed : ∀ c i, ¬ (c = 0 ∧ (i = 5 ∨ i = 10)) → c ≠ 3 → c ≠ 4 → c ≠ 5 → D' c i = D c i) (hS : qS9 (D 0 0) D' M') : qMR D' bn M' := by
  refine ⟨qTW_D (qTW_fr h.1 hW.1.1 hW.1.2.1 (fun k j q => e k j (by omega) (by omega))) (fun c i q => ed c i (by omega) (by omega) (by omega) (by omega)), qLK_D (qLK_fr h.2.1 (fun k j q => e k j (by omega) (by omega))) (fun c i q => ed c i (by omega) (by omega) (by omega) (by omega)), ?_, (e _ _ (by omega) (by omega)).trans h.2.2.2⟩
  rw [ed 0 0 (by omega) (by omega) (by omega) (by omega)]
  exact hS
theorem e8_days (hF : 4000 ≤ F) (hW : qWF D) (hQ : qDR D M) {n : Nat} (hn : n ≤ 9) : ∃ M', f_X8_day_h18 F (nI n) F (nI 0) (nI 0) M = some (nI (fb_sm (fun k => stR false (itD false D k)) n), M') ∧ qS8 (D 0 0) (itD false D n) M' ∧ M' 26 4 = adN (M 26 4) n ∧ (∀ k j, (k < 26 ∨ 29 < k ∧ k < 43 ∨ 87 < k) → M' k j = M k j) := by
  obtain ⟨⟨x2, N⟩, ⟨a1, a2, a3, a4⟩, a5⟩ := up_inv (fun q k (s : Int32 × gM) => f_X8_day_h18 F (nI n) q s.1 (nI k) s.2) n (fun k s => s.1 = nI (fb_sm (fun k => stR false (itD false D k)) k) ∧ qDR (itD false D k) s.2 ∧ s.2 26 4 = adN (M 26 4) k ∧ (∀ k j, (k < 26 ∨ 29 < k ∧ k < 43 ∨ 87 < k) → s.2 k j = M k j)) (by
    rintro q k ⟨x2, N⟩ hk ⟨u1, u2, u3, u4⟩
    dsimp only at u1 u2 u3 u4
    subst u1
    have hWk := itD_WF (b := false) hW k
    have h310 : N 3 10 = nI (itD false D k 0 0) := u2.1.1
    obtain ⟨N2, g1, g2, g3, g4⟩ := e8_pass hF hWk u2
    refine ⟨(nI (fb_sm (fun k => stR false (itD false D k)) (k + 1)), N2), ⟨rfl, ?_, ?_, fun k' j hk' => ?_⟩, ?_⟩
    · show qDR (itD false D (k + 1)) N2
      rw [itD_s]
      refine qDR_W hWk u2 (fun k' j q => g4 k' j (by omega)) (fun c i h1 h2 h3 h4 => stD_ch h1 h2 h3 h4) ?_
      exact g2
    · show N2 26 4 = adN (M 26 4) k + 1
      rw [g3, u3]
    · show N2 k' j = _
      rw [g4 k' j hk', u4 k' j hk']
    · show f_X8_day_h18_b F (nI n) (f_X8_day_h18 F (nI n) q) (nI (fb_sm (fun k => stR false (itD false D k)) k)) (nI k) N = f_X8_day_h18 F (nI n) q (nI (fb_sm (fun k => stR false (itD false D k)) (k + 1))) (nI (k + 1)) N2
      rw [fb_sm_succ]
      unfold f_X8_day_h18_b
      have e : stR false (itD false D k) = dyR (itD false D k) := rfl
      rw [e]
      simp (disch := omega) only [pn_lt, pn_ltM, pl_ofN, ↓pl_m1, pl_lit, fa_litL, pn_bs, ck_n, ckh_n, ck_t, ckh_t, nI_add, nI_clamp, nI_ltI, nI_leI, nI_eq, m1_eq, m1_eq2, m1_lt, m1_le, m1_lt2, m1_le2, m1_m1, nI_m1, nI_subn, gb_n, Nat.add_zero, Nat.zero_add, Nat.zero_or, Nat.or_zero, nle_f, nle_t, nlt_f, nlt_t, neq_f, neq_t, Bool.false_eq_true, eq_self, if_true, if_false, ite_true, ite_false, and_true, true_and, and_false, false_and, decide_true, decide_false, Bool.and_true, Bool.true_and, Bool.and_false, Bool.false_and, Bool.or_false, Bool.false_or, Bool.or_true, Bool.true_or, Bool.not_true, Bool.not_false, not_true_eq_false, not_false_eq_true, g1]) n 0 (nI 0, M) F (by omega) (by omega) ⟨rfl, hQ, rfl, fun _ _ _ => rfl⟩
  dsimp only at a1 a2 a3 a4 a5
  refine ⟨N, a5.trans ?_, ?_, a3, a4⟩
  · obtain ⟨n', en⟩ : ∃ n', F - n = n' + 1 := ⟨F - n - 1, by omega⟩
    rw [en, a1]
    show f_X8_day_h18_b F _ _ _ _ _ = _
    unfold f_X8_day_h18_b
    simp (disch := omega) only [pn_lt, pn_ltM, pl_ofN, ↓pl_m1, pl_lit, fa_litL, pn_bs, ck_n, ckh_n, ck_t, ckh_t, nI_add, nI_clamp, nI_ltI, nI_leI, nI_eq, m1_eq, m1_eq2, m1_lt, m1_le, m1_lt2, m1_le2, m1_m1, nI_m1, nI_subn, gb_n, Nat.add_zero, Nat.zero_add, Nat.zero_or, Nat.or_zero, nle_f, nle_t, nlt_f, nlt_t, neq_f, neq_t, Bool.false_eq_true, eq_self, if_true, if_false, ite_true, ite_false, and_true, true_and, and_false, false_and, decide_true, decide_false, Bool.and_true, Bool.true_and, Bool.and_false, Bool.false_and, Bool.or_false, Bool.false_or, Bool.or_true, Bool.true_or, Bool.not_true, Bool.not_false, not_true_eq_false, not_false_eq_true]
  · have := a2.2.2
    rw [itD_ch (by omega) (by omega) (by omega) (by omega)] at this
    exact this
theorem e8_drifts (hF : 4000 ≤ F) (hW : qWF D) (hQ : qDR D M) {n : Nat} (hn : n ≤ 9) : ∃ M', f_X8_drift_h18 F (nI n) F (nI 0) (nI 0) M = some (nI (fb_sm (fun k => stR true (itD true D k)) n), M') ∧ qS8 (D 0 0) (itD true D n) M' ∧ M' 26 4 = adN (M 26 4) n ∧ (∀ k j, (k < 26 ∨ 29 < k ∧ k < 43 ∨ 87 < k) → M' k j = M k j) := by
  obtain ⟨⟨x2, N⟩, ⟨a1, a2, a3, a4⟩, a5⟩ := up_inv (fun q k (s : Int32 × gM) => f_X8_drift_h18 F (nI n) q s.1 (nI k) s.2) n (fun k s => s.1 = nI (fb_sm (fun k => stR true (itD true D k)) k) ∧ qDR (itD true D k) s.2 ∧ s.2 26 4 = adN (M 26 4) k ∧ (∀ k j, (k < 26 ∨ 29 < k ∧ k < 43 ∨ 87 < k) → s.2 k j = M k j)) (by
    rintro q k ⟨x2, N⟩ hk ⟨u1, u2, u3, u4⟩
    dsimp only at u1 u2 u3 u4
    subst u1
    have hWk := itD_WF (b := true) hW k
    have h310 : N 3 10 = nI (itD true D k 0 0) := u2.1.1
    obtain ⟨N1, b1, b2, b3, b4⟩ := e5_draws hF hWk u2.2.2
    have hW1 := (drD_WF hWk (itD true D k 0 0)).1
    have e00 : drD (itD true D k) (itD true D k 0 0) 0 0 = itD true D k 0 0 := (drD_WF hWk _).2
    have hQ1 : qDR (drD (itD true D k) (itD true D k 0 0)) N1 := qDR_W hWk u2 (fun k' j q => by rw [b4 k' (by omega) (by omega)]) (fun c i h1 h2 h3 h4 => drD_ch (by omega) h3 _) b2
    obtain ⟨N2, g1, g2, g3, g4⟩ := e8_pass hF hW1 hQ1
    rw [e00] at g2
    refine ⟨(nI (fb_sm (fun k => stR true (itD true D k)) (k + 1)), N2), ⟨rfl, ?_, ?_, fun k' j hk' => ?_⟩, ?_⟩
    · show qDR (itD true D (k + 1)) N2
      rw [itD_s]
      refine qDR_W hWk u2 (fun k' j q => by rw [g4 k' j (by omega), b4 k' (by omega) (by omega)]) (fun c i h1 h2 h3 h4 => stD_ch h1 h2 h3 h4) ?_
      exact g2
    · show N2 26 4 = adN (M 26 4) k + 1
      rw [g3, b3, u3]
    · show N2 k' j = _
      rw [g4 k' j hk', b4 k' (by omega) (by omega), u4 k' j hk']
    · show f_X8_drift_h18_b F (nI n) (f_X8_drift_h18 F (nI n) q) (nI (fb_sm (fun k => stR true (itD true D k)) k)) (nI k) N = f_X8_drift_h18 F (nI n) q (nI (fb_sm (fun k => stR true (itD true D k)) (k + 1))) (nI (k + 1)) N2
      rw [fb_sm_succ]
      unfold f_X8_drift_h18_b
      have e : stR true (itD true D k) = dyR (drD (itD true D k) (itD true D k 0 0)) := rfl
      rw [e]
      rw [h310]
      simp (disch := omega) only [pn_lt, pn_ltM, pl_ofN, ↓pl_m1, pl_lit, fa_litL, pn_bs, ck_n, ckh_n, ck_t, ckh_t, nI_add, nI_clamp, nI_ltI, nI_leI, nI_eq, m1_eq, m1_eq2, m1_lt, m1_le, m1_lt2, m1_le2, m1_m1, nI_m1, nI_subn, gb_n, Nat.add_zero, Nat.zero_add, Nat.zero_or, Nat.or_zero, nle_f, nle_t, nlt_f, nlt_t, neq_f, neq_t, Bool.false_eq_true, eq_self, if_true, if_false, ite_true, ite_false, and_true, true_and, and_false, false_and, decide_true, decide_false, Bool.and_true, Bool.true_and, Bool.and_false, Bool.false_and, Bool.or_false, Bool.false_or, Bool.or_true, Bool.true_or, Bool.not_true, Bool.not_false, not_true_eq_false, not_false_eq_true, b1, g1]) n 0 (nI 0, M) F (by omega) (by omega) ⟨rfl, hQ, rfl, fun _ _ _ => rfl⟩
  dsimp only at a1 a2 a3 a4 a5
  refine ⟨N, a5.trans ?_, ?_, a3, a4⟩
  · obtain ⟨n', en⟩ : ∃ n', F - n = n' + 1 := ⟨F - n - 1, by omega⟩
    rw [en, a1]
    show f_X8_drift_h18_b F _ _ _ _ _ = _
    unfold f_X8_drift_h18_b
    simp (disch := omega) only [pn_lt, pn_ltM, pl_ofN, ↓pl_m1, pl_lit, fa_litL, pn_bs, ck_n, ckh_n, ck_t, ckh_t, nI_add, nI_clamp, nI_ltI, nI_leI, nI_eq, m1_eq, m1_eq2, m1_lt, m1_le, m1_lt2, m1_le2, m1_m1, nI_m1, nI_subn, gb_n, Nat.add_zero, Nat.zero_add, Nat.zero_or, Nat.or_zero, nle_f, nle_t, nlt_f, nlt_t, neq_f, neq_t, Bool.false_eq_true, eq_self, if_true, if_false, ite_true, ite_false, and_true, true_and, and_false, false_and, decide_true, decide_false, Bool.and_true, Bool.true_and, Bool.and_false, Bool.false_and, Bool.or_false, Bool.false_or, Bool.or_true, Bool.true_or, Bool.not_true, Bool.not_false, not_true_eq_false, not_false_eq_true]
  · have := a2.2.2
    rw [itD_ch (by omega) (by omega) (by omega) (by omega)] at this
    exact this
theorem e9_days (hF : 4000 ≤ F) (hW : qWF D) (hQ : qMR D 0 M) {n : Nat} (hn : n ≤ 9) : ∃ M', f_X9_day_h19 F (nI n) F (nI 0) (nI 0) M = some (nI (fb_sm (fun k => stR false (itD false D k)) n), M') ∧ qS9 (D 0 0) (itD false D n) M' ∧ M' 96 32 = adN (M 96 32) n ∧ (∀ k j, ¬ (k = 96 ∧ j < 40) → (k < 111 ∨ 115 < k) → M' k j = M k j) := by
  obtain ⟨⟨x2, N⟩, ⟨a1, a2, a3, a4⟩, a5⟩ := up_inv (fun q k (s : Int32 × gM) => f_X9_day_h19 F (nI n) q s.1 (nI k) s.2) n (fun k s => s.1 = nI (fb_sm (fun k => stR false (itD false D k)) k) ∧ qMR (itD false D k) 0 s.2 ∧ s.2 96 32 = adN (M 96 32) k ∧ (∀ k j, ¬ (k = 96 ∧ j < 40) → (k < 111 ∨ 115 < k) → s.2 k j = M k j)) (by
    rintro q k ⟨x2, N⟩ hk ⟨u1, u2, u3, u4⟩
    dsimp only at u1 u2 u3 u4
    subst u1
    have hWk := itD_WF (b := false) hW k
    obtain ⟨N2, g1, g2, g3, g4⟩ := e9_pass hF hWk u2
    refine ⟨(nI (fb_sm (fun k => stR false (itD false D k)) (k + 1)), N2), ⟨rfl, ?_, ?_, fun k' j h1 h2 => ?_⟩, ?_⟩
    · show qMR (itD false D (k + 1)) 0 N2
      rw [itD_s]
      exact qMR_W hWk u2 (fun k' j h1 h2 => g4 k' j h1 h2) (fun c i h1 h2 h3 h4 => stD_ch h1 h2 h3 h4) g2
    · show N2 96 32 = adN (M 96 32) k + 1
      rw [g3, u3]
    · show N2 k' j = _
      rw [show N2 k' j = N k' j from g4 k' j h1 h2, u4 k' j h1 h2]
    · show f_X9_day_h19_b F (nI n) (f_X9_day_h19 F (nI n) q) (nI (fb_sm (fun k => stR false (itD false D k)) k)) (nI k) N = f_X9_day_h19 F (nI n) q (nI (fb_sm (fun k => stR false (itD false D k)) (k + 1))) (nI (k + 1)) N2
      rw [fb_sm_succ]
      unfold f_X9_day_h19_b
      have e : stR false (itD false D k) = dyR (itD false D k) := rfl
      rw [e]
      simp (disch := omega) only [pn_lt, pn_ltM, pl_ofN, ↓pl_m1, pl_lit, fa_litL, pn_bs, ck_n, ckh_n, ck_t, ckh_t, nI_add, nI_clamp, nI_ltI, nI_leI, nI_eq, m1_eq, m1_eq2, m1_lt, m1_le, m1_lt2, m1_le2, m1_m1, nI_m1, nI_subn, gb_n, Nat.add_zero, Nat.zero_add, Nat.zero_or, Nat.or_zero, nle_f, nle_t, nlt_f, nlt_t, neq_f, neq_t, Bool.false_eq_true, eq_self, if_true, if_false, ite_true, ite_false, and_true, true_and, and_false, false_and, decide_true, decide_false, Bool.and_true, Bool.true_and, Bool.and_false, Bool.false_and, Bool.or_false, Bool.false_or, Bool.or_true, Bool.true_or, Bool.not_true, Bool.not_false, not_true_eq_false, not_false_eq_true, g1]) n 0 (nI 0, M) F (by omega) (by omega) ⟨rfl, hQ, rfl, fun _ _ _ _ => rfl⟩
  dsimp only at a1 a2 a3 a4 a5
  refine ⟨N, a5.trans ?_, ?_, a3, a4⟩
  · obtain ⟨n', en⟩ : ∃ n', F - n = n' + 1 := ⟨F - n - 1, by omega⟩
    rw [en, a1]
    show f_X9_day_h19_b F _ _ _ _ _ = _
    unfold f_X9_day_h19_b
    simp (disch := omega) only [pn_lt, pn_ltM, pl_ofN, ↓pl_m1, pl_lit, fa_litL, pn_bs, ck_n, ckh_n, ck_t, ckh_t, nI_add, nI_clamp, nI_ltI, nI_leI, nI_eq, m1_eq, m1_eq2, m1_lt, m1_le, m1_lt2, m1_le2, m1_m1, nI_m1, nI_subn, gb_n, Nat.add_zero, Nat.zero_add, Nat.zero_or, Nat.or_zero, nle_f, nle_t, nlt_f, nlt_t, neq_f, neq_t, Bool.false_eq_true, eq_self, if_true, if_false, ite_true, ite_false, and_true, true_and, and_false, false_and, decide_true, decide_false, Bool.and_true, Bool.true_and, Bool.and_false, Bool.false_and, Bool.or_false, Bool.false_or, Bool.or_true, Bool.true_or, Bool.not_true, Bool.not_false, not_true_eq_false, not_false_eq_true]
  · have := a2.2.2.1
    rw [itD_ch (by omega) (by omega) (by omega) (by omega)] at this
    exact this
theorem e9_drifts (hF : 4000 ≤ F) (hW : qWF D) (hQ : qMR D 0 M) {n : Nat} (hn : n ≤ 9) : ∃ M', f_X9_drift_h19 F (nI n) F (nI 0) (nI 0) M = some (nI (fb_sm (fun k => stR true (itD true D k)) n), M') ∧ qS9 (D 0 0) (itD true D n) M' ∧ M' 96 32 = adN (M 96 32) n ∧ (∀ k j, ¬ (k = 96 ∧ j < 40) → (k < 111 ∨ 115 < k) → M' k j = M k j) := by
  obtain ⟨⟨x2, N⟩, ⟨a1, a2, a3, a4⟩, a5⟩ := up_inv (fun q k (s : Int32 × gM) => f_X9_drift_h19 F (nI n) q s.1 (nI k) s.2) n (fun k s => s.1 = nI (fb_sm (fun k => stR true (itD true D k)) k) ∧ qMR (itD true D k) 0 s.2 ∧ s.2 96 32 = adN (M 96 32) k ∧ (∀ k j, ¬ (k = 96 ∧ j < 40) → (k < 111 ∨ 115 < k) → s.2 k j = M k j)) (by
    rintro q k ⟨x2, N⟩ hk ⟨u1, u2, u3, u4⟩
    dsimp only at u1 u2 u3 u4
    subst u1
    have hWk := itD_WF (b := true) hW k
    obtain ⟨N1, b1, b2, b3, b4⟩ := e9_draws hF hWk u2 (nI n) (f_X9_drift_h19 F (nI n) q) (nI (fb_sm (fun k => stR true (itD true D k)) k)) (nI k)
    have hW1 := (drD_WF hWk (itD true D k 0 0)).1
    have e00 : drD (itD true D k) (itD true D k 0 0) 0 0 = itD true D k 0 0 := (drD_WF hWk _).2
    have hQ1 : qMR (drD (itD true D k) (itD true D k 0 0)) 0 N1 := qMR_W hWk u2 (fun k' j h1 h2 => b4 k' j (by omega)) (fun c i h1 h2 h3 h4 => drD_ch (by omega) h3 _) b2
    obtain ⟨N2, g1, g2, g3, g4⟩ := e9_pass hF hW1 hQ1
    rw [e00] at g2
    refine ⟨(nI (fb_sm (fun k => stR true (itD true D k)) (k + 1)), N2), ⟨rfl, ?_, ?_, fun k' j h1 h2 => ?_⟩, ?_⟩
    · show qMR (itD true D (k + 1)) 0 N2
      rw [itD_s]
      exact qMR_W hWk u2 (fun k' j h1 h2 => (g4 k' j h1 h2).trans (b4 k' j (by omega))) (fun c i h1 h2 h3 h4 => stD_ch h1 h2 h3 h4) g2
    · show N2 96 32 = adN (M 96 32) k + 1
      rw [g3, b3, u3]
    · show N2 k' j = _
      rw [show N2 k' j = N k' j from (g4 k' j h1 h2).trans (b4 k' j (by omega)), u4 k' j h1 h2]
    · show f_X9_drift_h19_b F (nI n) (f_X9_drift_h19 F (nI n) q) (nI (fb_sm (fun k => stR true (itD true D k)) k)) (nI k) N = f_X9_drift_h19 F (nI n) q (nI (fb_sm (fun k => stR true (itD true D k)) (k + 1))) (nI (k + 1)) N2
      rw [fb_sm_succ]
      unfold f_X9_drift_h19_b
      have e : stR true (itD true D k) = dyR (drD (itD true D k) (itD true D k 0 0)) := rfl
      rw [e, if_neg (by rw [nI_leI (by omega) (by omega)]; omega)]
      refine b1.trans ?_
      rw [g1, pn_bs]
      dsimp only
      rw [nI_add, show nI k + (1 : Int32) = nI (k + 1) from nI_add k 1]) n 0 (nI 0, M) F (by omega) (by omega) ⟨rfl, hQ, rfl, fun _ _ _ _ => rfl⟩
  dsimp only at a1 a2 a3 a4 a5
  refine ⟨N, a5.trans ?_, ?_, a3, a4⟩
  · obtain ⟨n', en⟩ : ∃ n', F - n = n' + 1 := ⟨F - n - 1, by omega⟩
    rw [en, a1]
    show f_X9_drift_h19_b F _ _ _ _ _ = _
    unfold f_X9_drift_h19_b
    simp (disch := omega) only [pn_lt, pn_ltM, pl_ofN, ↓pl_m1, pl_lit, fa_litL, pn_bs, ck_n, ckh_n, ck_t, ckh_t, nI_add, nI_clamp, nI_ltI, nI_leI, nI_eq, m1_eq, m1_eq2, m1_lt, m1_le, m1_lt2, m1_le2, m1_m1, nI_m1, nI_subn, gb_n, Nat.add_zero, Nat.zero_add, Nat.zero_or, Nat.or_zero, nle_f, nle_t, nlt_f, nlt_t, neq_f, neq_t, Bool.false_eq_true, eq_self, if_true, if_false, ite_true, ite_false, and_true, true_and, and_false, false_and, decide_true, decide_false, Bool.and_true, Bool.true_and, Bool.and_false, Bool.false_and, Bool.or_false, Bool.false_or, Bool.or_true, Bool.true_or, Bool.not_true, Bool.not_false, not_true_eq_false, not_false_eq_true]
  · have := a2.2.2.1
    rw [itD_ch (by omega) (by omega) (by omega) (by omega)] at this
    exact this
theorem q_day (hF : 4000 ≤ F) (a : Int32) (h : qR M) : eqW (f_X8_day F a M) (f_X9_day F a) := by
  obtain ⟨D, hW, hC⟩ := id h
  obtain ⟨hT, hS, hX, hL, hG, hB, hFI, hb⟩ := id hC
  have hs8 := hW.1.2.1
  have hout : (a < nI 1 ∨ nI 9 < a) → eqW (f_X8_day F a M) (f_X9_day F a) := by
    intro h0
    refine ⟨-nI 1000000002, M, M, ?_, ?_, h⟩
    · unfold f_X8_day
      rcases h0 with h0 | h0
      · simp (disch := omega) only [pn_lt, pn_ltM, pl_ofN, ↓pl_m1, pl_lit, fa_litL, pn_bs, ck_n, ckh_n, ck_t, ckh_t, nI_add, nI_clamp, nI_ltI, nI_leI, nI_eq, m1_eq, m1_eq2, m1_lt, m1_le, m1_lt2, m1_le2, m1_m1, nI_m1, nI_subn, gb_n, Nat.add_zero, Nat.zero_add, Nat.zero_or, Nat.or_zero, nle_f, nle_t, nlt_f, nlt_t, neq_f, neq_t, Bool.false_eq_true, eq_self, if_true, if_false, ite_true, ite_false, and_true, true_and, and_false, false_and, decide_true, decide_false, Bool.and_true, Bool.true_and, Bool.and_false, Bool.false_and, Bool.or_false, Bool.false_or, Bool.or_true, Bool.true_or, Bool.not_true, Bool.not_false, not_true_eq_false, not_false_eq_true, i_lt h0]
      · have h1 : (a < nI 1) = False := eq_false (fun q => by
          rw [fa_lt, nI_toInt (by omega)] at h0 q
          omega)
        simp (disch := omega) only [pn_lt, pn_ltM, pl_ofN, ↓pl_m1, pl_lit, fa_litL, pn_bs, ck_n, ckh_n, ck_t, ckh_t, nI_add, nI_clamp, nI_ltI, nI_leI, nI_eq, m1_eq, m1_eq2, m1_lt, m1_le, m1_lt2, m1_le2, m1_m1, nI_m1, nI_subn, gb_n, Nat.add_zero, Nat.zero_add, Nat.zero_or, Nat.or_zero, nle_f, nle_t, nlt_f, nlt_t, neq_f, neq_t, Bool.false_eq_true, eq_self, if_true, if_false, ite_true, ite_false, and_true, true_and, and_false, false_and, decide_true, decide_false, Bool.and_true, Bool.true_and, Bool.and_false, Bool.false_and, Bool.or_false, Bool.false_or, Bool.or_true, Bool.true_or, Bool.not_true, Bool.not_false, not_true_eq_false, not_false_eq_true, h1, i_nle h0]
    · unfold f_X9_day
      rcases h0 with h0 | h0
      · simp (disch := omega) only [pn_lt, pn_ltM, pl_ofN, ↓pl_m1, pl_lit, fa_litL, pn_bs, ck_n, ckh_n, ck_t, ckh_t, nI_add, nI_clamp, nI_ltI, nI_leI, nI_eq, m1_eq, m1_eq2, m1_lt, m1_le, m1_lt2, m1_le2, m1_m1, nI_m1, nI_subn, gb_n, Nat.add_zero, Nat.zero_add, Nat.zero_or, Nat.or_zero, nle_f, nle_t, nlt_f, nlt_t, neq_f, neq_t, Bool.false_eq_true, eq_self, if_true, if_false, ite_true, ite_false, and_true, true_and, and_false, false_and, decide_true, decide_false, Bool.and_true, Bool.true_and, Bool.and_false, Bool.false_and, Bool.or_false, Bool.false_or, Bool.or_true, Bool.true_or, Bool.not_true, Bool.not_false, not_true_eq_false, not_false_eq_true, e9_inL, i_nle h0]
      · simp (disch := omega) only [pn_lt, pn_ltM, pl_ofN, ↓pl_m1, pl_lit, fa_litL, pn_bs, ck_n, ckh_n, ck_t, ckh_t, nI_add, nI_clamp, nI_ltI, nI_leI, nI_eq, m1_eq, m1_eq2, m1_lt, m1_le, m1_lt2, m1_le2, m1_m1, nI_m1, nI_subn, gb_n, Nat.add_zero, Nat.zero_add, Nat.zero_or, Nat.or_zero, nle_f, nle_t, nlt_f, nlt_t, neq_f, neq_t, Bool.false_eq_true, eq_self, if_true, if_false, ite_true, ite_false, and_true, true_and, and_false, false_and, decide_true, decide_false, Bool.and_true, Bool.true_and, Bool.and_false, Bool.false_and, Bool.or_false, Bool.false_or, Bool.or_true, Bool.true_or, Bool.not_true, Bool.not_false, not_true_eq_false, not_false_eq_true, e9_inL, i_nle h0]
  rcases rg_le a 9 (by omega) with h0 | h0 | ⟨n, hn9, rfl⟩
  · refine hout (.inl ?_)
    rw [fa_lt, nI_toInt (by omega)] at h0 ⊢
    omega
  · exact hout (.inr h0)
  · by_cases hn0 : n = 0
    · subst hn0
      refine hout (.inl ?_)
      rw [nI_ltI (by omega) (by omega)]
      omega
    · obtain ⟨C, c1, c2, c3, c4⟩ := e8_days hF hW ⟨hT, hL, qS_8 hS⟩ hn9
      have hQ : qMR D 0 C := ⟨qTW_fr hT hW.1.1 hs8 (fun k j q => c4 k j (by omega)), qLK_fr hL (fun k j q => c4 k j (by omega)), qS9_fr (qS_9 hS) hW.1.1 (fun j hj => c4 96 j (by omega)), (c4 _ _ (by omega)).trans hb⟩
      obtain ⟨N, n1, n2, n3, n4⟩ := e9_days hF hW hQ hn9
      have e32 : M 96 32 = M 26 4 := hS.2.2.2.2.2.2.1
      have hR : qR N := qR_state (D' := itD false D n) hW hC (fun k i q h1 h2 => by rw [n4 k i h2 (by unfold qrel at q; omega), c4 k i (by unfold qrel at q; omega)]) (fun c i h1 h2 => itD_ch (by omega) (by omega) (by omega) (by omega) n) (by
        have := (itD_WF (b := false) hW n).2.2.2
        rw [itD_ch (by omega) (by omega) (by omega) (by omega)] at this
        exact this) (qS_V (qS8_fr c2 (fun k j h1 h2 => n4 k j (by omega) (by omega))) n2 (by rw [n3, n4 26 4 (by omega) (by omega), c3, c4 96 32 (by omega), e32]))
      refine ⟨nI (fb_sm (fun k => stR false (itD false D k)) n), C, N, ?_, ?_, hR⟩
      · unfold f_X8_day
        rw [if_neg (by rw [show (1 : Int32) = nI 1 from rfl, nI_ltI (by omega) (by omega)]; omega), if_pos (by rw [show (9 : Int32) = nI 9 from rfl, nI_leI (by omega) (by omega)]; omega)]
        exact c1
      · unfold f_X9_day
        have e1 : f_X9_in (nI n).toInt64 (1 : Int64) (9 : Int64) C = some (nI 1) := by
          simp (disch := omega) only [pn_lt, pn_ltM, pl_ofN, ↓pl_m1, pl_lit, fa_litL, pn_bs, ck_n, ckh_n, ck_t, ckh_t, nI_add, nI_clamp, nI_ltI, nI_leI, nI_eq, m1_eq, m1_eq2, m1_lt, m1_le, m1_lt2, m1_le2, m1_m1, nI_m1, nI_subn, gb_n, Nat.add_zero, Nat.zero_add, Nat.zero_or, Nat.or_zero, nle_f, nle_t, nlt_f, nlt_t, neq_f, neq_t, Bool.false_eq_true, eq_self, if_true, if_false, ite_true, ite_false, and_true, true_and, and_false, false_and, decide_true, decide_false, Bool.and_true, Bool.true_and, Bool.and_false, Bool.false_and, Bool.or_false, Bool.false_or, Bool.or_true, Bool.true_or, Bool.not_true, Bool.not_false, not_true_eq_false, not_false_eq_true, e9_inL]
        rw [e1, pn_bs, if_neg (by decide)]
        exact n1
theorem q_drift (hF : 4000 ≤ F) (a : Int32) (h : qR M) : eqW (f_X8_drift F a M) (f_X9_drift F a) := by
  obtain ⟨D, hW, hC⟩ := id h
  obtain ⟨hT, hS, hX, hL, hG, hB, hFI, hb⟩ := id hC
  have hs8 := hW.1.2.1
  have hout : (a < nI 1 ∨ nI 9 < a) → eqW (f_X8_drift F a M) (f_X9_drift F a) := by
    intro h0
    refine ⟨-nI 1000000002, M, M, ?_, ?_, h⟩
    · unfold f_X8_drift
      rcases h0 with h0 | h0
      · simp (disch := omega) only [pn_lt, pn_ltM, pl_ofN, ↓pl_m1, pl_lit, fa_litL, pn_bs, ck_n, ckh_n, ck_t, ckh_t, nI_add, nI_clamp, nI_ltI, nI_leI, nI_eq, m1_eq, m1_eq2, m1_lt, m1_le, m1_lt2, m1_le2, m1_m1, nI_m1, nI_subn, gb_n, Nat.add_zero, Nat.zero_add, Nat.zero_or, Nat.or_zero, nle_f, nle_t, nlt_f, nlt_t, neq_f, neq_t, Bool.false_eq_true, eq_self, if_true, if_false, ite_true, ite_false, and_true, true_and, and_false, false_and, decide_true, decide_false, Bool.and_true, Bool.true_and, Bool.and_false, Bool.false_and, Bool.or_false, Bool.false_or, Bool.or_true, Bool.true_or, Bool.not_true, Bool.not_false, not_true_eq_false, not_false_eq_true, i_lt h0]
      · have h1 : (a < nI 1) = False := eq_false (fun q => by
          rw [fa_lt, nI_toInt (by omega)] at h0 q
          omega)
        simp (disch := omega) only [pn_lt, pn_ltM, pl_ofN, ↓pl_m1, pl_lit, fa_litL, pn_bs, ck_n, ckh_n, ck_t, ckh_t, nI_add, nI_clamp, nI_ltI, nI_leI, nI_eq, m1_eq, m1_eq2, m1_lt, m1_le, m1_lt2, m1_le2, m1_m1, nI_m1, nI_subn, gb_n, Nat.add_zero, Nat.zero_add, Nat.zero_or, Nat.or_zero, nle_f, nle_t, nlt_f, nlt_t, neq_f, neq_t, Bool.false_eq_true, eq_self, if_true, if_false, ite_true, ite_false, and_true, true_and, and_false, false_and, decide_true, decide_false, Bool.and_true, Bool.true_and, Bool.and_false, Bool.false_and, Bool.or_false, Bool.false_or, Bool.or_true, Bool.true_or, Bool.not_true, Bool.not_false, not_true_eq_false, not_false_eq_true, h1, i_nle h0]
    · unfold f_X9_drift
      rcases h0 with h0 | h0
      · simp (disch := omega) only [pn_lt, pn_ltM, pl_ofN, ↓pl_m1, pl_lit, fa_litL, pn_bs, ck_n, ckh_n, ck_t, ckh_t, nI_add, nI_clamp, nI_ltI, nI_leI, nI_eq, m1_eq, m1_eq2, m1_lt, m1_le, m1_lt2, m1_le2, m1_m1, nI_m1, nI_subn, gb_n, Nat.add_zero, Nat.zero_add, Nat.zero_or, Nat.or_zero, nle_f, nle_t, nlt_f, nlt_t, neq_f, neq_t, Bool.false_eq_true, eq_self, if_true, if_false, ite_true, ite_false, and_true, true_and, and_false, false_and, decide_true, decide_false, Bool.and_true, Bool.true_and, Bool.and_false, Bool.false_and, Bool.or_false, Bool.false_or, Bool.or_true, Bool.true_or, Bool.not_true, Bool.not_false, not_true_eq_false, not_false_eq_true, e9_inL, i_nle h0]
      · simp (disch := omega) only [pn_lt, pn_ltM, pl_ofN, ↓pl_m1, pl_lit, fa_litL, pn_bs, ck_n, ckh_n, ck_t, ckh_t, nI_add, nI_clamp, nI_ltI, nI_leI, nI_eq, m1_eq, m1_eq2, m1_lt, m1_le, m1_lt2, m1_le2, m1_m1, nI_m1, nI_subn, gb_n, Nat.add_zero, Nat.zero_add, Nat.zero_or, Nat.or_zero, nle_f, nle_t, nlt_f, nlt_t, neq_f, neq_t, Bool.false_eq_true, eq_self, if_true, if_false, ite_true, ite_false, and_true, true_and, and_false, false_and, decide_true, decide_false, Bool.and_true, Bool.true_and, Bool.and_false, Bool.false_and, Bool.or_false, Bool.false_or, Bool.or_true, Bool.true_or, Bool.not_true, Bool.not_false, not_true_eq_false, not_false_eq_true, e9_inL, i_nle h0]
  rcases rg_le a 9 (by omega) with h0 | h0 | ⟨n, hn9, rfl⟩
  · refine hout (.inl ?_)
    rw [fa_lt, nI_toInt (by omega)] at h0 ⊢
    omega
  · exact hout (.inr h0)
  · by_cases hn0 : n = 0
    · subst hn0
      refine hout (.inl ?_)
      rw [nI_ltI (by omega) (by omega)]
      omega
    · obtain ⟨C, c1, c2, c3, c4⟩ := e8_drifts hF hW ⟨hT, hL, qS_8 hS⟩ hn9
      have hQ : qMR D 0 C := ⟨qTW_fr hT hW.1.1 hs8 (fun k j q => c4 k j (by omega)), qLK_fr hL (fun k j q => c4 k j (by omega)), qS9_fr (qS_9 hS) hW.1.1 (fun j hj => c4 96 j (by omega)), (c4 _ _ (by omega)).trans hb⟩
      obtain ⟨N, n1, n2, n3, n4⟩ := e9_drifts hF hW hQ hn9
      have e32 : M 96 32 = M 26 4 := hS.2.2.2.2.2.2.1
      have hR : qR N := qR_state (D' := itD true D n) hW hC (fun k i q h1 h2 => by rw [n4 k i h2 (by unfold qrel at q; omega), c4 k i (by unfold qrel at q; omega)]) (fun c i h1 h2 => itD_ch (by omega) (by omega) (by omega) (by omega) n) (by
        have := (itD_WF (b := true) hW n).2.2.2
        rw [itD_ch (by omega) (by omega) (by omega) (by omega)] at this
        exact this) (qS_V (qS8_fr c2 (fun k j h1 h2 => n4 k j (by omega) (by omega))) n2 (by rw [n3, n4 26 4 (by omega) (by omega), c3, c4 96 32 (by omega), e32]))
      refine ⟨nI (fb_sm (fun k => stR true (itD true D k)) n), C, N, ?_, ?_, hR⟩
      · unfold f_X8_drift
        rw [if_neg (by rw [show (1 : Int32) = nI 1 from rfl, nI_ltI (by omega) (by omega)]; omega), if_pos (by rw [show (9 : Int32) = nI 9 from rfl, nI_leI (by omega) (by omega)]; omega)]
        exact c1
      · unfold f_X9_drift
        have e1 : f_X9_in (nI n).toInt64 (1 : Int64) (9 : Int64) C = some (nI 1) := by
          simp (disch := omega) only [pn_lt, pn_ltM, pl_ofN, ↓pl_m1, pl_lit, fa_litL, pn_bs, ck_n, ckh_n, ck_t, ckh_t, nI_add, nI_clamp, nI_ltI, nI_leI, nI_eq, m1_eq, m1_eq2, m1_lt, m1_le, m1_lt2, m1_le2, m1_m1, nI_m1, nI_subn, gb_n, Nat.add_zero, Nat.zero_add, Nat.zero_or, Nat.or_zero, nle_f, nle_t, nlt_f, nlt_t, neq_f, neq_t, Bool.false_eq_true, eq_self, if_true, if_false, ite_true, ite_false, and_true, true_and, and_false, false_and, decide_true, decide_false, Bool.and_true, Bool.true_and, Bool.and_false, Bool.false_and, Bool.or_false, Bool.false_or, Bool.or_true, Bool.true_or, Bool.not_true, Bool.not_false, not_true_eq_false, not_false_eq_true, e9_inL]
        rw [e1, pn_bs, if_neg (by decide)]
        exact n1
end EV
