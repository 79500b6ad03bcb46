/-! a day -/
/-- in how many hours the part is worn -/
noncomputable def wcN (D : Nat → Nat → Nat) (p k : Nat) : Nat := fb_ct (fun h => (wO D 0 (D 4) (D 0 4) h).testBit p) k
/-- what a day is spent -/
noncomputable def dyR (D : Nat → Nat → Nat) : Nat := if tP D 0 (D 4) (D 0 4) = 1000000 then 0 else tP D 0 (D 4) (D 0 4)
/-- what it leaves -/
noncomputable def dyD (D : Nat → Nat → Nat) : Nat → Nat → Nat := fun c i =>
  if tP D 0 (D 4) (D 0 4) = 1000000 then D c i else
  if c = 0 ∧ i = 5 then (if D 0 5 + tP D 0 (D 4) (D 0 4) ≤ 999999999 then D 0 5 + tP D 0 (D 4) (D 0 4) else 999999999) else
  if c = 3 then D 3 i - (D 5 i + wcN D i 12) / 10 else if c = 5 then (D 5 i + wcN D i 12) % 10 else D c i
theorem dyD_ch {D : Nat → Nat → Nat} {c i : Nat} (h : ¬ (c = 0 ∧ i = 5)) (h3 : c ≠ 3) (h5 : c ≠ 5) : dyD D c i = D c i := by
  unfold dyD
  by_cases z : tP D 0 (D 4) (D 0 4) = 1000000
  · rw [if_pos z]
  · rw [if_neg z, if_neg h, if_neg h3, if_neg h5]
theorem wcN_le (D : Nat → Nat → Nat) (p k : Nat) : wcN D p k ≤ k := fb_ct_le _ _
theorem wcN_s (D : Nat → Nat → Nat) (p k : Nat) : wcN D p (k + 1) = wcN D p k + (if (wO D 0 (D 4) (D 0 4) k).testBit p then 1 else 0) := rfl
theorem wcN_0 {D : Nat → Nat → Nat} (hW : qWF D) (hlt : tP D 0 (D 4) (D 0 4) < 1000000) {p : Nat} (hp : D 0 0 ≤ p) {k : Nat} (hk : k ≤ 12) : wcN D p k = 0 :=
  fb_ct_zero.mpr (fun h hh => bits_of_lt (wO_ok hW hlt (by omega)).2 hp)
theorem dyD_WF {D : Nat → Nat → Nat} (hW : qWF D) : qWF (dyD D) ∧ dyD D 0 0 = D 0 0 := by
  have e0 : dyD D 0 0 = D 0 0 := dyD_ch (by omega) (by omega) (by omega)
  have hpr : ∀ p, p < D 0 0 → D 4 p ≤ 99 := fun p hp => (hW.2.2.2.2.2.2.1 p hp).2
  refine ⟨⟨qBT_D hW.1 (fun c i q => dyD_ch (by omega) (by omega) (by omega)), qBL_D hW.2.1 (fun c i q => dyD_ch (by omega) (by omega) (by omega)), qBX_D hW.2.2.1 (fun c i q => dyD_ch (by omega) (by omega) (by omega)), ?_⟩, e0⟩
  rw [e0]
  obtain ⟨b1, b2, b3, b4, b5, b6⟩ := hW.2.2.2
  by_cases z : tP D 0 (D 4) (D 0 4) = 1000000
  · have e : dyD D = D := by
      funext c i
      unfold dyD
      rw [if_pos z]
    rw [e]
    exact hW.2.2.2
  · have htf := tP_fin (bn := 0) (f := D 4) (l := D 0 4) hW hpr
    have hlt : tP D 0 (D 4) (D 0 4) < 1000000 := by omega
    have e3 : ∀ p, dyD D 3 p = D 3 p - (D 5 p + wcN D p 12) / 10 := fun p => by
      unfold dyD
      rw [if_neg z, if_neg (by omega), if_pos rfl]
    have e5 : ∀ p, dyD D 5 p = (D 5 p + wcN D p 12) % 10 := fun p => by
      unfold dyD
      rw [if_neg z, if_neg (by omega), if_neg (by omega), if_pos rfl]
    have e05 : dyD D 0 5 = if D 0 5 + tP D 0 (D 4) (D 0 4) ≤ 999999999 then D 0 5 + tP D 0 (D 4) (D 0 4) else 999999999 := by
      unfold dyD
      rw [if_neg z, if_pos ⟨rfl, rfl⟩]
    refine ⟨?_, ?_, ?_, fun p hp => ?_, fun p hp => ?_, fun p h1 h2 => ?_⟩
    · rw [dyD_ch (by omega) (by omega) (by omega)]; exact b1
    · rw [e05]
      split
      · assumption
      · exact Nat.le_refl _
    · rw [dyD_ch (by omega) (by omega) (by omega)]; exact b3
    · rw [e3, dyD_ch (by omega) (by omega) (by omega)]
      obtain ⟨c1, c2⟩ := b4 p hp
      exact ⟨by omega, c2⟩
    · rw [e5]
      omega
    · rw [e5, b6 p h1 h2, wcN_0 hW hlt h1 (Nat.le_refl _)]
section EV
variable {F : Nat} {D : Nat → Nat → Nat} {M : gM}
theorem e5_wearHour (hF : 4000 ≤ F) {a : Nat} (ha : a < 1024) {g : Nat → Nat} (hg : ∀ p, p < 10 → M 29 p = nI (g p)) : ∃ M', f_X5_wearHour F 26 (nI a) M = some M' ∧ (∀ p, p < 10 → M' 29 p = nI (g p + (if a.testBit p then 1 else 0))) ∧ (∀ k, k ≠ 29 → M' k = M k) := by
  obtain ⟨N, ⟨a1, a2, a4⟩, a3⟩ := up_inv (fun q p (N : gM) => f_X5_wearHour_h2 F 26 (nI a) q (nI p) N) 10 (fun i N => (∀ p, p < i → N 29 p = nI (g p + (if a.testBit p then 1 else 0))) ∧ (∀ k, k ≠ 29 → N k = M k) ∧ (∀ p, i ≤ p → p < 10 → N 29 p = nI (g p))) (by
    rintro q p N hp ⟨u1, u2, u3⟩
    have e1 := e8_has (a := a) (j := p) (by omega) (by omega) N
    have r2 : rf 26 2 = 29 := rfl
    have v1 := u3 p (Nat.le_refl _) hp
    cases c : a.testBit p
    · rw [c] at e1
      refine ⟨N, ⟨fun p' h1 => ?_, u2, fun p' h1 h2 => u3 p' (by omega) h2⟩, ?_⟩
      · by_cases e : p' = p
        · rw [e, c, v1]
          rfl
        · exact u1 p' (by omega)
      · show f_X5_wearHour_h2_b F _ _ _ _ _ = _
        unfold f_X5_wearHour_h2_b
        simp (disch := omega) only [pn_lt, pn_ltM, pl_ofN, ↓pl_m1, pl_lit, fa_litL, pn_bs, ck_n, ckh_n, ck_t, ckh_t, nI_add, nI_clamp, nI_ltI, nI_leI, nI_eq, m1_eq, m1_eq2, m1_lt, m1_le, m1_lt2, m1_le2, m1_m1, nI_m1, nI_subn, gb_n, Nat.add_zero, Nat.zero_add, Nat.zero_or, Nat.or_zero, nle_f, nle_t, nlt_f, nlt_t, neq_f, neq_t, Bool.false_eq_true, eq_self, if_true, if_false, ite_true, ite_false, and_true, true_and, and_false, false_and, decide_true, decide_false, Bool.and_true, Bool.true_and, Bool.and_false, Bool.false_and, Bool.or_false, Bool.false_or, Bool.or_true, Bool.true_or, Bool.not_true, Bool.not_false, not_true_eq_false, not_false_eq_true, e1]
    · rw [c] at e1
      refine ⟨gst N 29 p (nI (g p + 1)), ⟨fun p' h1 => ?_, fun k hk => by rw [gst_ne _ _ _ _ hk, u2 k hk], fun p' h1 h2 => by rw [gst_v, if_neg (by omega)]; exact u3 p' (by omega) h2⟩, ?_⟩
      · rw [gst_v]
        by_cases e : p' = p
        · rw [if_pos ⟨rfl, e⟩, e, c]
          rfl
        · rw [if_neg (fun z => e z.2)]
          exact u1 p' (by omega)
      · show f_X5_wearHour_h2_b F _ _ _ _ _ = _
        unfold f_X5_wearHour_h2_b
        simp (disch := omega) only [pn_lt, pn_ltM, pl_ofN, ↓pl_m1, pl_lit, fa_litL, pn_bs, ck_n, ckh_n, ck_t, ckh_t, nI_add, nI_clamp, nI_ltI, nI_leI, nI_eq, m1_eq, m1_eq2, m1_lt, m1_le, m1_lt2, m1_le2, m1_m1, nI_m1, nI_subn, gb_n, Nat.add_zero, Nat.zero_add, Nat.zero_or, Nat.or_zero, nle_f, nle_t, nlt_f, nlt_t, neq_f, neq_t, Bool.false_eq_true, eq_self, if_true, if_false, ite_true, ite_false, and_true, true_and, and_false, false_and, decide_true, decide_false, Bool.and_true, Bool.true_and, Bool.and_false, Bool.false_and, Bool.or_false, Bool.false_or, Bool.or_true, Bool.true_or, Bool.not_true, Bool.not_false, not_true_eq_false, not_false_eq_true, e1, r2, v1]) 10 0 M F (by omega) (by omega) ⟨fun p hp => absurd hp (Nat.not_lt_zero _), fun _ _ => rfl, fun p _ hp => hg p hp⟩
  refine ⟨N, ?_, a1, a2⟩
  unfold f_X5_wearHour
  refine a3.trans ?_
  obtain ⟨n', en⟩ : ∃ n', F - 10 = n' + 1 := ⟨F - 11, by omega⟩
  rw [en]
  show f_X5_wearHour_h2_b F _ _ _ _ _ = _
  unfold f_X5_wearHour_h2_b
  simp (disch := omega) only [pn_lt, pn_ltM, pl_ofN, ↓pl_m1, pl_lit, fa_litL, pn_bs, ck_n, ckh_n, ck_t, ckh_t, nI_add, nI_clamp, nI_ltI, nI_leI, nI_eq, m1_eq, m1_eq2, m1_lt, m1_le, m1_lt2, m1_le2, m1_m1, nI_m1, nI_subn, gb_n, Nat.add_zero, Nat.zero_add, Nat.zero_or, Nat.or_zero, nle_f, nle_t, nlt_f, nlt_t, neq_f, neq_t, Bool.false_eq_true, eq_self, if_true, if_false, ite_true, ite_false, and_true, true_and, and_false, false_and, decide_true, decide_false, Bool.and_true, Bool.true_and, Bool.and_false, Bool.false_and, Bool.or_false, Bool.false_or, Bool.or_true, Bool.true_or, Bool.not_true, Bool.not_false, not_true_eq_false, not_false_eq_true]
theorem e5_out1 (k2 : Int32 → gM → Option gM) {p : Nat} (hp : p < 10) : ∀ (j n t w : Nat) (N : gM), N 29 p = nI t → (10 ≤ t → N 27 p = nI w) → w ≤ 9 → t ≤ 10 * j + 9 → j ≤ 9 → j < n →
    ∃ N', f_X5_wearOut_h8 F 26 k2 n (nI p) N = k2 (nI (p + 1)) N' ∧ N' 29 p = nI (t % 10) ∧ (10 ≤ t → N' 27 p = nI (w - t / 10)) ∧ (t < 10 → N' 27 p = N 27 p) ∧ (∀ k i, ¬ ((k = 27 ∨ k = 29) ∧ i = p) → N' k i = N k i) := by
  intro j
  induction j with
  | zero =>
    intro n t w N h1 h2 h3 h4 h6 h5
    obtain ⟨n', rfl⟩ : ∃ n', n = n' + 1 := ⟨n - 1, by omega⟩
    refine ⟨N, ?_, by rw [h1, Nat.mod_eq_of_lt (by omega)], fun q => by omega, fun _ => rfl, fun _ _ _ => rfl⟩
    show f_X5_wearOut_h8_b F _ _ _ _ _ = _
    unfold f_X5_wearOut_h8_b
    have r2 : rf 26 2 = 29 := rfl
    simp (disch := omega) only [pn_lt, pn_ltM, pl_ofN, ↓pl_m1, pl_lit, fa_litL, pn_bs, ck_n, ckh_n, ck_t, ckh_t, nI_add, nI_clamp, nI_ltI, nI_leI, nI_eq, m1_eq, m1_eq2, m1_lt, m1_le, m1_lt2, m1_le2, m1_m1, nI_m1, nI_subn, gb_n, Nat.add_zero, Nat.zero_add, Nat.zero_or, Nat.or_zero, nle_f, nle_t, nlt_f, nlt_t, neq_f, neq_t, Bool.false_eq_true, eq_self, if_true, if_false, ite_true, ite_false, and_true, true_and, and_false, false_and, decide_true, decide_false, Bool.and_true, Bool.true_and, Bool.and_false, Bool.false_and, Bool.or_false, Bool.false_or, Bool.or_true, Bool.true_or, Bool.not_true, Bool.not_false, not_true_eq_false, not_false_eq_true, r2, h1]
  | succ j ih =>
    intro n t w N h1 h2 h3 h4 h6 h5
    obtain ⟨n', rfl⟩ : ∃ n', n = n' + 1 := ⟨n - 1, by omega⟩
    have r2 : rf 26 2 = 29 := rfl
    have r0 : rf 26 0 = 27 := rfl
    by_cases c : t < 10
    · refine ⟨N, ?_, by rw [h1, Nat.mod_eq_of_lt (by omega)], fun q => by omega, fun _ => rfl, fun _ _ _ => rfl⟩
      show f_X5_wearOut_h8_b F _ _ _ _ _ = _
      unfold f_X5_wearOut_h8_b
      simp (disch := omega) only [pn_lt, pn_ltM, pl_ofN, ↓pl_m1, pl_lit, fa_litL, pn_bs, ck_n, ckh_n, ck_t, ckh_t, nI_add, nI_clamp, nI_ltI, nI_leI, nI_eq, m1_eq, m1_eq2, m1_lt, m1_le, m1_lt2, m1_le2, m1_m1, nI_m1, nI_subn, gb_n, Nat.add_zero, Nat.zero_add, Nat.zero_or, Nat.or_zero, nle_f, nle_t, nlt_f, nlt_t, neq_f, neq_t, Bool.false_eq_true, eq_self, if_true, if_false, ite_true, ite_false, and_true, true_and, and_false, false_and, decide_true, decide_false, Bool.and_true, Bool.true_and, Bool.and_false, Bool.false_and, Bool.or_false, Bool.false_or, Bool.or_true, Bool.true_or, Bool.not_true, Bool.not_false, not_true_eq_false, not_false_eq_true, r2, h1]
    · have h2' := h2 (by omega)
      obtain ⟨N', g1, g2, g3, g4, g5⟩ := ih n' (t - 10) (w - 1) (gst (gst N 29 p (nI (t - 10))) 27 p (nI (w - 1))) (by rw [gst_v, if_neg (by omega), gst_v, if_pos ⟨rfl, rfl⟩]) (fun _ => by rw [gst_v, if_pos ⟨rfl, rfl⟩]) (by omega) (by omega) (by omega) (by omega)
      refine ⟨N', Eq.trans ?_ g1, ?_, fun _ => ?_, fun q => by omega, fun k i hk => ?_⟩
      · show f_X5_wearOut_h8_b F _ _ _ _ _ = _
        unfold f_X5_wearOut_h8_b
        have e10 : nI t - nI 10 = nI (t - 10) := nI_subn (by omega)
        by_cases z : w = 0
        · subst z
          have e1 : nI 0 - nI 1 = m1 := by decide +kernel
          simp (disch := omega) only [pn_lt, pn_ltM, pl_ofN, ↓pl_m1, pl_lit, fa_litL, pn_bs, ck_n, ckh_n, ck_t, ckh_t, nI_add, nI_clamp, nI_ltI, nI_leI, nI_eq, m1_eq, m1_eq2, m1_lt, m1_le, m1_lt2, m1_le2, m1_m1, nI_m1, nI_subn, gb_n, Nat.add_zero, Nat.zero_add, Nat.zero_or, Nat.or_zero, nle_f, nle_t, nlt_f, nlt_t, neq_f, neq_t, Bool.false_eq_true, eq_self, if_true, if_false, ite_true, ite_false, and_true, true_and, and_false, false_and, decide_true, decide_false, Bool.and_true, Bool.true_and, Bool.and_false, Bool.false_and, Bool.or_false, Bool.false_or, Bool.or_true, Bool.true_or, Bool.not_true, Bool.not_false, not_true_eq_false, not_false_eq_true, r2, r0, h1, h2', e10, gst_v, e1]
        · have e1 : nI w - nI 1 = nI (w - 1) := nI_subn (by omega)
          by_cases z2 : w = 1
          · subst z2
            simp (disch := omega) only [pn_lt, pn_ltM, pl_ofN, ↓pl_m1, pl_lit, fa_litL, pn_bs, ck_n, ckh_n, ck_t, ckh_t, nI_add, nI_clamp, nI_ltI, nI_leI, nI_eq, m1_eq, m1_eq2, m1_lt, m1_le, m1_lt2, m1_le2, m1_m1, nI_m1, nI_subn, gb_n, Nat.add_zero, Nat.zero_add, Nat.zero_or, Nat.or_zero, nle_f, nle_t, nlt_f, nlt_t, neq_f, neq_t, Bool.false_eq_true, eq_self, if_true, if_false, ite_true, ite_false, and_true, true_and, and_false, false_and, decide_true, decide_false, Bool.and_true, Bool.true_and, Bool.and_false, Bool.false_and, Bool.or_false, Bool.false_or, Bool.or_true, Bool.true_or, Bool.not_true, Bool.not_false, not_true_eq_false, not_false_eq_true, r2, r0, h1, h2', e10, gst_v, e1]
          · simp (disch := omega) only [pn_lt, pn_ltM, pl_ofN, ↓pl_m1, pl_lit, fa_litL, pn_bs, ck_n, ckh_n, ck_t, ckh_t, nI_add, nI_clamp, nI_ltI, nI_leI, nI_eq, m1_eq, m1_eq2, m1_lt, m1_le, m1_lt2, m1_le2, m1_m1, nI_m1, nI_subn, gb_n, Nat.add_zero, Nat.zero_add, Nat.zero_or, Nat.or_zero, nle_f, nle_t, nlt_f, nlt_t, neq_f, neq_t, Bool.false_eq_true, eq_self, if_true, if_false, ite_true, ite_false, and_true, true_and, and_false, false_and, decide_true, decide_false, Bool.and_true, Bool.true_and, Bool.and_false, Bool.false_and, Bool.or_false, Bool.false_or, Bool.or_true, Bool.true_or, Bool.not_true, Bool.not_false, not_true_eq_false, not_false_eq_true, r2, r0, h1, h2', e10, gst_v, e1]
      · rw [g2]
        congr 1
        omega
      · by_cases z : 10 ≤ t - 10
        · rw [g3 z]
          congr 1
          omega
        · rw [g4 (by omega), gst_v, if_pos ⟨rfl, rfl⟩]
          congr 1
          omega
      · rw [g5 k i hk, gst_v, if_neg (by omega), gst_v, if_neg (by omega)]
theorem e5_wearOut (hF : 4000 ≤ F) {n : Nat} (hn : n ≤ 10) {t w : Nat → Nat} (ht : ∀ p, p < 10 → M 29 p = nI (t p) ∧ t p ≤ 21 ∧ (n ≤ p → t p < 10)) (hw : ∀ p, p < n → M 27 p = nI (w p) ∧ w p ≤ 9) :
    ∃ M', f_X5_wearOut F 26 M = some M' ∧ (∀ p, p < 10 → M' 29 p = nI (t p % 10)) ∧ (∀ p, p < n → M' 27 p = nI (w p - t p / 10)) ∧ (∀ k, k ≠ 27 → k ≠ 29 → M' k = M k) := by
  obtain ⟨N, ⟨a1, a2, a4, a5⟩, a3⟩ := up_inv (fun q p (N : gM) => f_X5_wearOut_h2 F 26 q (nI p) N) 10 (fun i N => (∀ p, p < i → N 29 p = nI (t p % 10) ∧ (p < n → N 27 p = nI (w p - t p / 10))) ∧ (∀ k, k ≠ 27 → k ≠ 29 → N k = M k) ∧ (∀ p, i ≤ p → p < 10 → N 29 p = nI (t p)) ∧ (∀ p, i ≤ p → p < n → N 27 p = nI (w p))) (by
    rintro q p N hp ⟨u1, u2, u3, u4⟩
    obtain ⟨t1, t2, t3⟩ := ht p hp
    obtain ⟨N', g1, g2, g3, g4, g5⟩ := e5_out1 (F := F) (f_X5_wearOut_h2 F 26 q) hp 2 F (t p) (if p < n then w p else 0) N (u3 p (Nat.le_refl _) hp) (fun z => by
      have hpn : p < n := by
        rcases Nat.lt_or_ge p n with y | y
        · exact y
        · have := t3 y; omega
      rw [if_pos hpn]
      exact u4 p (Nat.le_refl _) hpn) (by
      by_cases hpn : p < n
      · rw [if_pos hpn]; exact (hw p hpn).2
      · rw [if_neg hpn]; omega) (by omega) (by omega) (by omega)
    refine ⟨N', ⟨fun p' h1 => ?_, fun k h1 h2 => ?_, fun p' h1 h2 => ?_, fun p' h1 h2 => ?_⟩, ?_⟩
    · by_cases e : p' = p
      · subst e
        refine ⟨g2, fun hpn => ?_⟩
        by_cases z : 10 ≤ t p'
        · rw [g3 z, if_pos hpn]
        · rw [g4 (by omega), u4 p' (Nat.le_refl _) hpn]
          congr 1
          omega
      · obtain ⟨y1, y2⟩ := u1 p' (by omega)
        exact ⟨by rw [g5 _ _ (by omega)]; exact y1, fun hpn => by rw [g5 _ _ (by omega)]; exact y2 hpn⟩
    · funext i
      rw [g5 k i (by omega), u2 k h1 h2]
    · rw [g5 _ _ (by omega)]; exact u3 p' (by omega) h2
    · rw [g5 _ _ (by omega)]; exact u4 p' (by omega) h2
    · show f_X5_wearOut_h2_b F _ _ _ _ = _
      unfold f_X5_wearOut_h2_b
      rw [if_neg (by rw [show (10 : Int32) = nI 10 from rfl, nI_leI (by omega) (by omega)]; omega)]
      exact g1) 10 0 M F (by omega) (by omega) ⟨fun p hp => absurd hp (Nat.not_lt_zero _), fun _ _ _ => rfl, fun p _ hp => (ht p hp).1, fun p _ hp => (hw p hp).1⟩
  refine ⟨N, ?_, fun p hp => (a1 p hp).1, fun p hp => (a1 p (by omega)).2 hp, a2⟩
  unfold f_X5_wearOut
  refine a3.trans ?_
  obtain ⟨n', en⟩ : ∃ n', F - 10 = n' + 1 := ⟨F - 11, by omega⟩
  rw [en]
  show f_X5_wearOut_h2_b F _ _ _ _ = _
  unfold f_X5_wearOut_h2_b
  simp (disch := omega) only [pn_lt, pn_ltM, pl_ofN, ↓pl_m1, pl_lit, fa_litL, pn_bs, ck_n, ckh_n, ck_t, ckh_t, nI_add, nI_clamp, nI_ltI, nI_leI, nI_eq, m1_eq, m1_eq2, m1_lt, m1_le, m1_lt2, m1_le2, m1_m1, nI_m1, nI_subn, gb_n, Nat.add_zero, Nat.zero_add, Nat.zero_or, Nat.or_zero, nle_f, nle_t, nlt_f, nlt_t, neq_f, neq_t, Bool.false_eq_true, eq_self, if_true, if_false, ite_true, ite_false, and_true, true_and, and_false, false_and, decide_true, decide_false, Bool.and_true, Bool.true_and, Bool.and_false, Bool.false_and, Bool.or_false, Bool.false_or, Bool.or_true, Bool.true_or, Bool.not_true, Bool.not_false, not_true_eq_false, not_false_eq_true]
theorem e8_pass (hF : 4000 ≤ F) (hW : qWF D) (hQ : qDR D M) : ∃ M', f_X8_passDay F M = some (nI (dyR D), M') ∧ qS8 (D 0 0) (dyD D) M' ∧ M' 26 4 = M 26 4 + 1 ∧ (∀ k j, (k < 26 ∨ 29 < k ∧ k < 43 ∨ 87 < k) → M' k j = M k j) := by
  have hn := hW.1.1
  have hpr : ∀ p, p < D 0 0 → D 4 p ≤ 99 := fun p hp => (hW.2.2.2.2.2.2.1 p hp).2
  obtain ⟨C, c1, ⟨c2, c3, -⟩, c5⟩ := e8_dressBest (bn := 0) hF hW (by omega) hQ
  have htf := tP_fin (bn := 0) (f := D 4) (l := D 0 4) hW hpr
  have hSC : qS8 (D 0 0) D C := qS8_fr hQ.2.2 (fun k j h1 h2 => c5 k j (by omega))
  unfold f_X8_passDay
  rw [show (0 : Int32) = nI 0 from rfl, c1, pn_bs, pn_ltM]
  have e43 : gst C 26 4 (C 26 4 + 1) 43 8 = C 43 8 := by rw [gst_v, if_neg (by omega)]
  have e26 : C 26 4 = M 26 4 := c5 _ _ (by omega)
  rw [e43, c2]
  by_cases z : tP D 0 (D 4) (D 0 4) = 1000000
  · rw [if_pos z, if_pos (show m1 = -1 from rfl)]
    have e : dyD D = D := by
      funext c i
      unfold dyD
      rw [if_pos z]
    have eR : dyR D = 0 := by unfold dyR; rw [if_pos z]
    rw [e, eR]
    refine ⟨_, rfl, ?_, by rw [gst_v, if_pos ⟨rfl, rfl⟩, e26], fun k j hk => by rw [gst_v, if_neg (by omega)]; exact c5 k j (by omega)⟩
    obtain ⟨a1, a2, a3, a4, a5⟩ := hSC
    exact ⟨by rw [gst_v, if_neg (by omega)]; exact a1, by rw [gst_v, if_neg (by omega)]; exact a2, by rw [gst_v, if_neg (by omega)]; exact a3, fun p hp => ⟨by rw [gst_v, if_neg (by omega)]; exact (a4 p hp).1, by rw [gst_v, if_neg (by omega)]; exact (a4 p hp).2⟩, fun p hp => by rw [gst_v, if_neg (by omega)]; exact a5 p hp⟩
  · have hlt : tP D 0 (D 4) (D 0 4) < 1000000 := by omega
    rw [if_neg z, if_neg (nI_ne_m1 (by omega))]
    obtain ⟨a1, a2, a3, a4, a5⟩ := id hSC
    have hb5 := hW.2.2.2.2.2.2.2.1
    have hb6 := hW.2.2.2.2.2.2.2.2
    have hb3 := hW.2.2.2.2.2.2.1
    -- the hours
    obtain ⟨N, ⟨g1, g2⟩, g3⟩ := up_inv (fun q h (N : gM) => f_X8_passDay_h33 F q (nI h) N) 12 (fun i N => (∀ p, p < 10 → N 29 p = nI (D 5 p + wcN D p i)) ∧ (∀ k j, k ≠ 29 → N k j = gst C 26 4 (C 26 4 + 1) k j)) (by
      rintro q h N hh ⟨u1, u2⟩
      have v1 : N 86 h = nI (wO D 0 (D 4) (D 0 4) h) := by rw [u2 _ _ (by omega), gst_v, if_neg (by omega), c3 h hh, if_neg z]
      obtain ⟨N', w1, w2, w3⟩ := e5_wearHour (F := F) (a := wO D 0 (D 4) (D 0 4) h) (g := fun p => D 5 p + wcN D p h) hF (wO_ok hW hlt hh).1 u1
      refine ⟨N', ⟨fun p hp => ?_, fun k j hk => by rw [w3 k hk, u2 k j hk]⟩, ?_⟩
      · rw [w2 p hp, wcN_s, Nat.add_assoc]
      · show f_X8_passDay_h33_b F _ _ _ = _
        unfold f_X8_passDay_h33_b
        simp (disch := omega) only [pn_lt, pn_ltM, pl_ofN, ↓pl_m1, pl_lit, fa_litL, pn_bs, ck_n, ckh_n, ck_t, ckh_t, nI_add, nI_clamp, nI_ltI, nI_leI, nI_eq, m1_eq, m1_eq2, m1_lt, m1_le, m1_lt2, m1_le2, m1_m1, nI_m1, nI_subn, gb_n, Nat.add_zero, Nat.zero_add, Nat.zero_or, Nat.or_zero, nle_f, nle_t, nlt_f, nlt_t, neq_f, neq_t, Bool.false_eq_true, eq_self, if_true, if_false, ite_true, ite_false, and_true, true_and, and_false, false_and, decide_true, decide_false, Bool.and_true, Bool.true_and, Bool.and_false, Bool.false_and, Bool.or_false, Bool.false_or, Bool.or_true, Bool.true_or, Bool.not_true, Bool.not_false, not_true_eq_false, not_false_eq_true, v1, w1]) 12 0 (gst C 26 4 (C 26 4 + 1)) F (by omega) (by omega) ⟨fun p hp => by rw [gst_v, if_neg (by omega)]; exact a5 p hp, fun _ _ _ => rfl⟩
    obtain ⟨N2, w1, w2, w3, w4⟩ := e5_wearOut (F := F) (M := N) (n := D 0 0) (t := fun p => D 5 p + wcN D p 12) (w := D 3) hF hn (fun p hp => ⟨g1 p hp, by
      have := hb5 p hp
      have := wcN_le D p 12
      omega, fun hpn => by
      rw [hb6 p hpn hp, wcN_0 hW hlt hpn (Nat.le_refl _)]
      omega⟩) (fun p hp => ⟨by rw [g2 _ _ (by omega), gst_v, if_neg (by omega)]; exact (a4 p hp).1, (hb3 p hp).1⟩)
    have fN2 : ∀ k j, k ≠ 27 → k ≠ 29 → N2 k j = gst C 26 4 (C 26 4 + 1) k j := fun k j h1 h2 => by rw [w4 k h1 h2, g2 k j h2]
    have e3 : N2 26 3 = nI (D 0 5) := by rw [fN2 _ _ (by omega) (by omega), gst_v, if_neg (by omega)]; exact a1
    have e8 : N2 43 8 = nI (tP D 0 (D 4) (D 0 4)) := by rw [fN2 _ _ (by omega) (by omega), e43, c2, if_neg z]
    have hb2 := hW.2.2.2.2.1
    have eR : dyR D = tP D 0 (D 4) (D 0 4) := by unfold dyR; rw [if_neg z]
    have e05 : dyD D 0 5 = if D 0 5 + tP D 0 (D 4) (D 0 4) ≤ 999999999 then D 0 5 + tP D 0 (D 4) (D 0 4) else 999999999 := by
      unfold dyD
      rw [if_neg z, if_pos ⟨rfl, rfl⟩]
    refine ⟨gst N2 26 3 (nI (dyD D 0 5)), ?_, ?_, ?_, fun k j hk => ?_⟩
    · refine g3.trans ?_
      obtain ⟨n', en⟩ : ∃ n', F - 12 = n' + 1 := ⟨F - 13, by omega⟩
      rw [en]
      show f_X8_passDay_h33_b F _ _ _ = _
      unfold f_X8_passDay_h33_b
      rw [eR, e05]
      generalize tP D 0 (D 4) (D 0 4) = T at *
      by_cases y : D 0 5 + T < 999999999
      · simp (disch := omega) only [pn_lt, pn_ltM, pl_ofN, ↓pl_m1, pl_lit, fa_litL, pn_bs, ck_n, ckh_n, ck_t, ckh_t, nI_add, nI_clamp, nI_ltI, nI_leI, nI_eq, m1_eq, m1_eq2, m1_lt, m1_le, m1_lt2, m1_le2, m1_m1, nI_m1, nI_subn, gb_n, Nat.add_zero, Nat.zero_add, Nat.zero_or, Nat.or_zero, nle_f, nle_t, nlt_f, nlt_t, neq_f, neq_t, Bool.false_eq_true, eq_self, if_true, if_false, ite_true, ite_false, and_true, true_and, and_false, false_and, decide_true, decide_false, Bool.and_true, Bool.true_and, Bool.and_false, Bool.false_and, Bool.or_false, Bool.false_or, Bool.or_true, Bool.true_or, Bool.not_true, Bool.not_false, not_true_eq_false, not_false_eq_true, w1, e3, e8, y, gst_v]
      · by_cases y2 : D 0 5 + T = 999999999
        · simp (disch := omega) only [pn_lt, pn_ltM, pl_ofN, ↓pl_m1, pl_lit, fa_litL, pn_bs, ck_n, ckh_n, ck_t, ckh_t, nI_add, nI_clamp, nI_ltI, nI_leI, nI_eq, m1_eq, m1_eq2, m1_lt, m1_le, m1_lt2, m1_le2, m1_m1, nI_m1, nI_subn, gb_n, Nat.add_zero, Nat.zero_add, Nat.zero_or, Nat.or_zero, nle_f, nle_t, nlt_f, nlt_t, neq_f, neq_t, Bool.false_eq_true, eq_self, if_true, if_false, ite_true, ite_false, and_true, true_and, and_false, false_and, decide_true, decide_false, Bool.and_true, Bool.true_and, Bool.and_false, Bool.false_and, Bool.or_false, Bool.false_or, Bool.or_true, Bool.true_or, Bool.not_true, Bool.not_false, not_true_eq_false, not_false_eq_true, w1, e3, e8, y2, gst_v]
        · simp (disch := omega) only [pn_lt, pn_ltM, pl_ofN, ↓pl_m1, pl_lit, fa_litL, pn_bs, ck_n, ckh_n, ck_t, ckh_t, nI_add, nI_clamp, nI_ltI, nI_leI, nI_eq, m1_eq, m1_eq2, m1_lt, m1_le, m1_lt2, m1_le2, m1_m1, nI_m1, nI_subn, gb_n, Nat.add_zero, Nat.zero_add, Nat.zero_or, Nat.or_zero, nle_f, nle_t, nlt_f, nlt_t, neq_f, neq_t, Bool.false_eq_true, eq_self, if_true, if_false, ite_true, ite_false, and_true, true_and, and_false, false_and, decide_true, decide_false, Bool.and_true, Bool.true_and, Bool.and_false, Bool.false_and, Bool.or_false, Bool.false_or, Bool.or_true, Bool.true_or, Bool.not_true, Bool.not_false, not_true_eq_false, not_false_eq_true, w1, e3, e8, y, gst_v]
    · refine ⟨by rw [gst_v, if_pos ⟨rfl, rfl⟩], ?_, ?_, fun p hp => ⟨?_, ?_⟩, fun p hp => ?_⟩
      · rw [gst_v, if_neg (by omega), fN2 _ _ (by omega) (by omega), gst_v, if_neg (by omega), dyD_ch (by omega) (by omega) (by omega)]; exact a2
      · rw [gst_v, if_neg (by omega), fN2 _ _ (by omega) (by omega), gst_v, if_neg (by omega), dyD_ch (by omega) (by omega) (by omega)]; exact a3
      · rw [gst_v, if_neg (by omega), w3 p hp]
        unfold dyD
        rw [if_neg z, if_neg (by omega), if_pos rfl]
      · rw [gst_v, if_neg (by omega), fN2 _ _ (by omega) (by omega), gst_v, if_neg (by omega), dyD_ch (by omega) (by omega) (by omega)]; exact (a4 p hp).2
      · rw [gst_v, if_neg (by omega), w2 p hp]
        unfold dyD
        rw [if_neg z, if_neg (by omega), if_neg (by omega), if_pos rfl]
    · rw [gst_v, if_neg (by omega), fN2 _ _ (by omega) (by omega), gst_v, if_pos ⟨rfl, rfl⟩, e26]
    · rw [gst_v, if_neg (by omega), fN2 _ _ (by omega) (by omega), gst_v, if_neg (by omega)]
      exact c5 k j (by omega)
end EV
