/-! rent, without -/
/-- the parts of a landlord -/
def owS (D : Nat → Nat → Nat) (lo : Nat) : Nat := bsN (fun p => decide (D 2 p = lo)) (D 0 0)
/-- the rent -/
noncomputable def rN (D : Nat → Nat → Nat) (f : Nat → Nat) (l lo : Nat) : Nat := if tP D 0 f l = 1000000 then 0 else fb_sm (fun h => sS f (wO D 0 f l h &&& owS D lo) (D 0 0)) 12
theorem owS_bit {D : Nat → Nat → Nat} {lo w p : Nat} (hp : p < D 0 0) : (w &&& owS D lo).testBit p = (w.testBit p && decide (D 2 p = lo)) := by
  unfold owS
  rw [Nat.testBit_and, bsN_bit, decide_eq_true hp, Bool.true_and]
theorem e8_isLandlord (a : Int32) (M : gM) : (∃ j, j ≤ 3 ∧ a = nI j ∧ f_X8_isLandlord a M = some (nI 1)) ∨ (¬ (nI 0 ≤ a ∧ a ≤ nI 3)) ∧ f_X8_isLandlord a M = some (nI 0) := by
  unfold f_X8_isLandlord
  rcases rg_le a 3 (by omega) with h0 | h0 | ⟨j, hj, rfl⟩
  · refine .inr ⟨fun q => (fa_of_lt h0).2.1 q.1, ?_⟩
    simp (disch := omega) only [pn_lt, pn_ltM, pl_ofN, ↓pl_m1, pl_lit, fa_litL, pn_bs, ck_n, ckh_n, ck_t, ckh_t, nI_add, nI_clamp, nI_ltI, nI_leI, nI_eq, m1_eq, m1_eq2, m1_lt, m1_le, m1_lt2, m1_le2, m1_m1, nI_m1, nI_subn, gb_n, Nat.add_zero, Nat.zero_add, Nat.zero_or, Nat.or_zero, nle_f, nle_t, nlt_f, nlt_t, neq_f, neq_t, Bool.false_eq_true, eq_self, if_true, if_false, ite_true, ite_false, and_true, true_and, and_false, false_and, decide_true, decide_false, Bool.and_true, Bool.true_and, Bool.and_false, Bool.false_and, Bool.or_false, Bool.false_or, Bool.or_true, Bool.true_or, Bool.not_true, Bool.not_false, not_true_eq_false, not_false_eq_true, i_lt h0]
  · refine .inr ⟨fun q => (fa_of_lt h0).2.1 q.2, ?_⟩
    have h2 : (nI 4 ≤ a) = True := eq_true (by
      rw [fa_lt, nI_toInt (by omega)] at h0
      rw [fa_le, nI_toInt (by omega)]
      omega)
    simp (disch := omega) only [pn_lt, pn_ltM, pl_ofN, ↓pl_m1, pl_lit, fa_litL, pn_bs, ck_n, ckh_n, ck_t, ckh_t, nI_add, nI_clamp, nI_ltI, nI_leI, nI_eq, m1_eq, m1_eq2, m1_lt, m1_le, m1_lt2, m1_le2, m1_m1, nI_m1, nI_subn, gb_n, Nat.add_zero, Nat.zero_add, Nat.zero_or, Nat.or_zero, nle_f, nle_t, nlt_f, nlt_t, neq_f, neq_t, Bool.false_eq_true, eq_self, if_true, if_false, ite_true, ite_false, and_true, true_and, and_false, false_and, decide_true, decide_false, Bool.and_true, Bool.true_and, Bool.and_false, Bool.false_and, Bool.or_false, Bool.false_or, Bool.or_true, Bool.true_or, Bool.not_true, Bool.not_false, not_true_eq_false, not_false_eq_true, i_lt0 h0, h2]
  · refine .inl ⟨j, hj, rfl, ?_⟩
    simp (disch := omega) only [pn_lt, pn_ltM, pl_ofN, ↓pl_m1, pl_lit, fa_litL, pn_bs, ck_n, ckh_n, ck_t, ckh_t, nI_add, nI_clamp, nI_ltI, nI_leI, nI_eq, m1_eq, m1_eq2, m1_lt, m1_le, m1_lt2, m1_le2, m1_m1, nI_m1, nI_subn, gb_n, Nat.add_zero, Nat.zero_add, Nat.zero_or, Nat.or_zero, nle_f, nle_t, nlt_f, nlt_t, neq_f, neq_t, Bool.false_eq_true, eq_self, if_true, if_false, ite_true, ite_false, and_true, true_and, and_false, false_and, decide_true, decide_false, Bool.and_true, Bool.true_and, Bool.and_false, Bool.false_and, Bool.or_false, Bool.false_or, Bool.or_true, Bool.true_or, Bool.not_true, Bool.not_false, not_true_eq_false, not_false_eq_true]
section EV
variable {F : Nat} {D : Nat → Nat → Nat} {M : gM} {f : Nat → Nat} {l x lo : Nat}
theorem rN_eq (l lo : Nat) : fb_sm (fun h => sS f ((if tP D 0 f l = 1000000 then 0 else wO D 0 f l h) &&& owS D lo) (D 0 0)) 12 = rN D f l lo := by
  unfold rN
  by_cases z : tP D 0 f l = 1000000
  · simp only [if_pos z]
    rw [fb_sm_cong (g := fun _ => 0) (fun k _ => by
      rw [Nat.zero_and]
      unfold sS
      rw [fb_sm_cong (g := fun _ => 0) (fun p _ => by rw [Nat.zero_testBit]; rfl), fb_sm_const]
      omega), fb_sm_const]
  · simp only [if_neg z]
theorem rN_le (hf : ∀ p, p < D 0 0 → f p ≤ 99) (hn : D 0 0 ≤ 10) (l lo : Nat) : rN D f l lo ≤ 11880 := by
  unfold rN
  split
  · omega
  · refine Nat.le_trans (fb_sm_bound (c := 990) (fun k _ => ?_)) (by omega)
    have := sS_le (a := wO D 0 f l k &&& owS D lo) hf
    omega
theorem e9_rentIn (hF : 4000 ≤ F) (hW : qWF D) (hP : pRow D f l x M) (hA : aRow (aB D 0) M) (hf : ∀ p, p < D 0 0 → f p ≤ 99) (hl : l ≤ 1) (hx : x ≤ 40) (hlo : lo ≤ 3) :
    ∃ M', f_X9_rentIn F (nI x) (nI lo) M = some (nI (rN D f l lo), M') ∧ (∀ k, k ≠ 112 → k ≠ 115 → M' k = M k) := by
  have hn := hW.1.1
  obtain ⟨N1, a1, a2, a3⟩ := e9_findLeast hF hW hP hA hf hl hx
  have b4 : N1 112 0 = nI (tP D 0 f l) := (a2 0 (by omega)).1
  have htf := tP_fin (bn := 0) (l := l) hW hf
  unfold f_X9_rentIn rN
  by_cases z : tP D 0 f l = 1000000
  · refine ⟨N1, ?_, fun k h1 _ => a3 k h1⟩
    rw [if_pos z]
    generalize tP D 0 f l = T at *
    simp (disch := omega) only [pn_lt, pn_ltM, pl_ofN, ↓pl_m1, pl_lit, fa_litL, pn_bs, ck_n, ckh_n, ck_t, ckh_t, nI_add, nI_clamp, nI_ltI, nI_leI, nI_eq, m1_eq, m1_eq2, m1_lt, m1_le, m1_lt2, m1_le2, m1_m1, nI_m1, nI_subn, gb_n, Nat.add_zero, Nat.zero_add, Nat.zero_or, Nat.or_zero, nle_f, nle_t, nlt_f, nlt_t, neq_f, neq_t, Bool.false_eq_true, eq_self, if_true, if_false, ite_true, ite_false, and_true, true_and, and_false, false_and, decide_true, decide_false, Bool.and_true, Bool.true_and, Bool.and_false, Bool.false_and, Bool.or_false, Bool.false_or, Bool.or_true, Bool.true_or, Bool.not_true, Bool.not_false, not_true_eq_false, not_false_eq_true, a1, b4]
  · rw [if_neg z]
    have hlt : tP D 0 f l < 1000000 := by omega
    have hP1 : pRow D f l x N1 := ⟨fun p hp => by rw [a3 _ (by omega)]; exact hP.1 p hp, by rw [a3 _ (by omega)]; exact hP.2.1, qTW_fr hP.2.2 hW.1.1 hW.1.2.1 (fun k j q => by rw [a3 k (by omega)])⟩
    obtain ⟨N2, w1, w2, w3⟩ := e9_findWorn (A := aB D 0) hF hW hP1 (fun h hh a ha => by rw [a3 _ (by omega)]; exact hA h hh a ha) hf hl hx a2 hlt
    refine ⟨N2, ?_, fun k h1 h2 => by rw [w3 k h2, a3 k h1]⟩
    have hp2 : ∀ p, p < D 0 0 → N2 96 (x + 10 + p) = nI (f p) := fun p hp => by rw [w3 _ (by omega)]; exact hP1.1 p hp
    have hT2 : qTW D N2 := qTW_fr hP1.2.2 hW.1.1 hW.1.2.1 (fun k j q => by rw [w3 k (by omega)])
    have h108 := hT2.2.2.2.1
    have hsum : ∀ h, sS f (wO D 0 f l h &&& owS D lo) (D 0 0) ≤ 990 := fun h => by
      have := sS_le (a := wO D 0 f l h &&& owS D lo) hf
      omega
    have hsm : ∀ h, h ≤ 12 → fb_sm (fun h => sS f (wO D 0 f l h &&& owS D lo) (D 0 0)) h ≤ 11880 := fun h hh => by
      have := fb_sm_bound (n := h) (f := fun h => sS f (wO D 0 f l h &&& owS D lo) (D 0 0)) (c := 990) (fun k _ => hsum k)
      omega
    obtain ⟨s, h1, h2⟩ := up_inv (fun q h (s : Int32) => f_X9_rentIn_h28 F (nI x) (nI lo) q s (nI h) N2) 12 (fun h s => s = nI (fb_sm (fun h => sS f (wO D 0 f l h &&& owS D lo) (D 0 0)) h)) (by
      intro q h s hh hs
      refine ⟨_, rfl, ?_⟩
      subst hs
      have hacc := hsm h (by omega)
      have wv : N2 115 h = nI (wO D 0 f l h) := w2 h hh
      have wb := (wO_ok hW hlt hh).1
      rw [fb_sm_succ]
      generalize fb_sm (fun h => sS f (wO D 0 f l h &&& owS D lo) (D 0 0)) h = acc at *
      obtain ⟨y, g1, g2⟩ := up_inv (fun q' p (y : Int32) => f_X9_rentIn_h38 F (nI x) (nI lo) (f_X9_rentIn_h28 F (nI x) (nI lo) q) q' y (nI h) (nI p) N2) (D 0 0) (fun p y => y = nI (acc + sS f (wO D 0 f l h &&& owS D lo) p)) (by
        intro q' p y hp hy
        refine ⟨_, rfl, ?_⟩
        subst hy
        have e0 : sS f (wO D 0 f l h &&& owS D lo) (p + 1) = sS f (wO D 0 f l h &&& owS D lo) p + (if (wO D 0 f l h &&& owS D lo).testBit p then f p else 0) := rfl
        have e1 := e9_has (a := wO D 0 f l h) (j := p) (by omega) (by omega) N2
        have e2 := (hT2.2.2.2.2.2.1 p hp).2.2.2.2.2.2.1
        have e3 := hp2 p hp
        have e4 := hf p hp
        have e5 : sS f (wO D 0 f l h &&& owS D lo) p ≤ 990 := by
          have := sS_le (a := wO D 0 f l h &&& owS D lo) (n := p) (f := f) (c := 99) (fun k hk => hf k (by omega))
          omega
        have e6 := (hW.1.2.2.2.1 p hp).2.1
        rw [e0, owS_bit hp]
        generalize sS f (wO D 0 f l h &&& owS D lo) p = S at *
        show f_X9_rentIn_h38_b F _ _ _ _ _ _ _ _ = _
        unfold f_X9_rentIn_h38_b
        cases c1 : (wO D 0 f l h).testBit p
        · simp (disch := omega) only [pn_lt, pn_ltM, pl_ofN, ↓pl_m1, pl_lit, fa_litL, pn_bs, ck_n, ckh_n, ck_t, ckh_t, nI_add, nI_clamp, nI_ltI, nI_leI, nI_eq, m1_eq, m1_eq2, m1_lt, m1_le, m1_lt2, m1_le2, m1_m1, nI_m1, nI_subn, gb_n, Nat.add_zero, Nat.zero_add, Nat.zero_or, Nat.or_zero, nle_f, nle_t, nlt_f, nlt_t, neq_f, neq_t, Bool.false_eq_true, eq_self, if_true, if_false, ite_true, ite_false, and_true, true_and, and_false, false_and, decide_true, decide_false, Bool.and_true, Bool.true_and, Bool.and_false, Bool.false_and, Bool.or_false, Bool.false_or, Bool.or_true, Bool.true_or, Bool.not_true, Bool.not_false, not_true_eq_false, not_false_eq_true, h108, wv, e1, c1]
        · by_cases c2 : D 2 p = lo
          · have ea : acc + (S + f p) = acc + S + f p := (Nat.add_assoc _ _ _).symm
            simp (disch := omega) only [pn_lt, pn_ltM, pl_ofN, ↓pl_m1, pl_lit, fa_litL, pn_bs, ck_n, ckh_n, ck_t, ckh_t, nI_add, nI_clamp, nI_ltI, nI_leI, nI_eq, m1_eq, m1_eq2, m1_lt, m1_le, m1_lt2, m1_le2, m1_m1, nI_m1, nI_subn, gb_n, Nat.add_zero, Nat.zero_add, Nat.zero_or, Nat.or_zero, nle_f, nle_t, nlt_f, nlt_t, neq_f, neq_t, Bool.false_eq_true, eq_self, if_true, if_false, ite_true, ite_false, and_true, true_and, and_false, false_and, decide_true, decide_false, Bool.and_true, Bool.true_and, Bool.and_false, Bool.false_and, Bool.or_false, Bool.false_or, Bool.or_true, Bool.true_or, Bool.not_true, Bool.not_false, not_true_eq_false, not_false_eq_true, h108, wv, e1, c1, e2, e3, c2, ea]
          · simp (disch := omega) only [pn_lt, pn_ltM, pl_ofN, ↓pl_m1, pl_lit, fa_litL, pn_bs, ck_n, ckh_n, ck_t, ckh_t, nI_add, nI_clamp, nI_ltI, nI_leI, nI_eq, m1_eq, m1_eq2, m1_lt, m1_le, m1_lt2, m1_le2, m1_m1, nI_m1, nI_subn, gb_n, Nat.add_zero, Nat.zero_add, Nat.zero_or, Nat.or_zero, nle_f, nle_t, nlt_f, nlt_t, neq_f, neq_t, Bool.false_eq_true, eq_self, if_true, if_false, ite_true, ite_false, and_true, true_and, and_false, false_and, decide_true, decide_false, Bool.and_true, Bool.true_and, Bool.and_false, Bool.false_and, Bool.or_false, Bool.false_or, Bool.or_true, Bool.true_or, Bool.not_true, Bool.not_false, not_true_eq_false, not_false_eq_true, h108, wv, e1, c1, e2, c2]) (D 0 0) 0 (nI acc) F (by omega) (by omega) rfl
      show f_X9_rentIn_h28_b F _ _ _ _ _ _ = _
      unfold f_X9_rentIn_h28_b
      rw [if_neg (by rw [show (12 : Int32) = nI 12 from rfl, nI_leI (by omega) (by omega)]; omega)]
      refine g2.trans ?_
      obtain ⟨n', en⟩ : ∃ n', F - D 0 0 = n' + 1 := ⟨F - D 0 0 - 1, by omega⟩
      rw [en, g1]
      show f_X9_rentIn_h38_b F _ _ _ _ _ _ _ _ = _
      unfold f_X9_rentIn_h38_b
      simp (disch := omega) only [pn_lt, pn_ltM, pl_ofN, ↓pl_m1, pl_lit, fa_litL, pn_bs, ck_n, ckh_n, ck_t, ckh_t, nI_add, nI_clamp, nI_ltI, nI_leI, nI_eq, m1_eq, m1_eq2, m1_lt, m1_le, m1_lt2, m1_le2, m1_m1, nI_m1, nI_subn, gb_n, Nat.add_zero, Nat.zero_add, Nat.zero_or, Nat.or_zero, nle_f, nle_t, nlt_f, nlt_t, neq_f, neq_t, Bool.false_eq_true, eq_self, if_true, if_false, ite_true, ite_false, and_true, true_and, and_false, false_and, decide_true, decide_false, Bool.and_true, Bool.true_and, Bool.and_false, Bool.false_and, Bool.or_false, Bool.false_or, Bool.or_true, Bool.true_or, Bool.not_true, Bool.not_false, not_true_eq_false, not_false_eq_true, h108]) 12 0 (nI 0) F (by omega) (by omega) rfl
    have hlast : f_X9_rentIn_h28 F (nI x) (nI lo) F (nI 0) (nI 0) N2 = some (nI (fb_sm (fun h => sS f (wO D 0 f l h &&& owS D lo) (D 0 0)) 12), N2) := by
      refine h2.trans ?_
      obtain ⟨n', en⟩ : ∃ n', F - 12 = n' + 1 := ⟨F - 13, by omega⟩
      rw [en, h1]
      show f_X9_rentIn_h28_b F _ _ _ _ _ _ = _
      unfold f_X9_rentIn_h28_b
      simp (disch := omega) only [pn_lt, pn_ltM, pl_ofN, ↓pl_m1, pl_lit, fa_litL, pn_bs, ck_n, ckh_n, ck_t, ckh_t, nI_add, nI_clamp, nI_ltI, nI_leI, nI_eq, m1_eq, m1_eq2, m1_lt, m1_le, m1_lt2, m1_le2, m1_m1, nI_m1, nI_subn, gb_n, Nat.add_zero, Nat.zero_add, Nat.zero_or, Nat.or_zero, nle_f, nle_t, nlt_f, nlt_t, neq_f, neq_t, Bool.false_eq_true, eq_self, if_true, if_false, ite_true, ite_false, and_true, true_and, and_false, false_and, decide_true, decide_false, Bool.and_true, Bool.true_and, Bool.and_false, Bool.false_and, Bool.or_false, Bool.false_or, Bool.or_true, Bool.true_or, Bool.not_true, Bool.not_false, not_true_eq_false, not_false_eq_true]
    generalize tP D 0 f l = T at *
    simp (disch := omega) only [pn_lt, pn_ltM, pl_ofN, ↓pl_m1, pl_lit, fa_litL, pn_bs, ck_n, ckh_n, ck_t, ckh_t, nI_add, nI_clamp, nI_ltI, nI_leI, nI_eq, m1_eq, m1_eq2, m1_lt, m1_le, m1_lt2, m1_le2, m1_m1, nI_m1, nI_subn, gb_n, Nat.add_zero, Nat.zero_add, Nat.zero_or, Nat.or_zero, nle_f, nle_t, nlt_f, nlt_t, neq_f, neq_t, Bool.false_eq_true, eq_self, if_true, if_false, ite_true, ite_false, and_true, true_and, and_false, false_and, decide_true, decide_false, Bool.and_true, Bool.true_and, Bool.and_false, Bool.false_and, Bool.or_false, Bool.false_or, Bool.or_true, Bool.true_or, Bool.not_true, Bool.not_false, not_true_eq_false, not_false_eq_true, a1, b4, w1, hlast]
theorem q_rent (hF : 4000 ≤ F) (a : Int32) (h : qR M) : eqW (f_X8_rent F a M) (f_X9_rent F a) := by
  obtain ⟨D, hW, hC⟩ := id h
  obtain ⟨hT, hS, hX, hL, hG, hB, hFI, hb⟩ := id hC
  have hs8 := hW.1.2.1
  have hpr : ∀ p, p < D 0 0 → D 4 p ≤ 99 := fun p hp => (hW.2.2.2.2.2.2.1 p hp).2
  rcases e8_isLandlord a M with ⟨lo, hlo, rfl, e1⟩ | ⟨e0, e1⟩
  · obtain ⟨C, c1, ⟨c2, c3, c4⟩, c5⟩ := e8_dressBest (bn := 0) hF hW (by omega) ⟨hT, hL, qS_8 hS⟩
    have hCR : qRC D C := qRC_fr hC hW.1.1 hs8 (fun k i q => c5 k i (by unfold qrel at q; omega))
    obtain ⟨hT1, hS1, hX1, hL1, hG1, hB1, hFI1, hb1⟩ := id hCR
    have ho := e8_ownedBy (l := lo) hF hW hT1 hlo
    have hp8 : f_X1_priceOfWorn F (nI (owS D lo)) 28 10 C = some (nI (rN D (D 4) (D 0 4) lo)) := by
      rw [← rN_eq]
      refine e1_priceOfWorn (W := fun h => if tP D 0 (D 4) (D 0 4) = 1000000 then 0 else wO D 0 (D 4) (D 0 4) h) hF hpr hW.1.1 (fun h hh => ⟨c3 h hh, ?_⟩) (fun p hp => (hS1.2.2.2.2.2.2.2.1 p hp).2.1)
      by_cases z : tP D 0 (D 4) (D 0 4) = 1000000
      · rw [if_pos z]; exact Nat.two_pow_pos _
      · rw [if_neg z]
        have htf := tP_fin (bn := 0) (f := D 4) (l := D 0 4) hW hpr
        exact (wO_ok hW (by omega) hh).2
    obtain ⟨N, n1, n2, n3⟩ := e9_findAllSets (bn := 0) hF hW (by omega) ⟨hT1, hL1, qS_9 hS1, hb1⟩
    have hRN : qRC D N := qRC_fr hCR hW.1.1 hs8 (fun k i q => n3 k i (by unfold qrel at q; omega) (by unfold qrel at q; omega) (by unfold qrel at q; omega))
    obtain ⟨N2, m1', m2⟩ := e9_rentIn (lo := lo) hF hW (pRow_of hRN.1 (qS_9 hRN.2.1)) (aRow_of n2) hpr hW.2.2.2.1 (by omega) hlo
    have hRN2 : qR N2 := ⟨D, hW, qRC_fr hRN hW.1.1 hs8 (fun k i q => by rw [m2 k (by unfold qrel at q; omega) (by unfold qrel at q; omega)])⟩
    have ho' : f_X7_ownedBy F 3 (nI lo) C = some (nI (owS D lo)) := ho
    refine ⟨nI (rN D (D 4) (D 0 4) lo), C, N2, ?_, ?_, hRN2⟩
    · unfold f_X8_rent
      rw [e1, pn_bs, if_neg (by decide), show (0 : Int32) = nI 0 from rfl, c1, pn_bs, ho', pn_bs, hp8, pn_bs]
    · unfold f_X9_rent
      have e2 : f_X9_in (nI lo).toInt64 (0 : Int64) (3 : Int64) C = some (nI 1) := by
        simp (disch := omega) only [pn_lt, pn_ltM, pl_ofN, ↓pl_m1, pl_lit, fa_litL, pn_bs, ck_n, ckh_n, ck_t, ckh_t, nI_add, nI_clamp, nI_ltI, nI_leI, nI_eq, m1_eq, m1_eq2, m1_lt, m1_le, m1_lt2, m1_le2, m1_m1, nI_m1, nI_subn, gb_n, Nat.add_zero, Nat.zero_add, Nat.zero_or, Nat.or_zero, nle_f, nle_t, nlt_f, nlt_t, neq_f, neq_t, Bool.false_eq_true, eq_self, if_true, if_false, ite_true, ite_false, and_true, true_and, and_false, false_and, decide_true, decide_false, Bool.and_true, Bool.true_and, Bool.and_false, Bool.false_and, Bool.or_false, Bool.false_or, Bool.or_true, Bool.true_or, Bool.not_true, Bool.not_false, not_true_eq_false, not_false_eq_true, e9_inL]
      rw [e2, pn_bs, if_neg (by decide), show (0 : Int32) = nI 0 from rfl, n1, pn_bs, m1', pn_bs]
  · refine ⟨-nI 1000000002, M, M, ?_, ?_, h⟩
    · unfold f_X8_rent
      rw [e1, pn_bs, if_pos (by decide)]
      rfl
    · unfold f_X9_rent
      simp (disch := omega) only [pn_lt, pn_ltM, pl_ofN, ↓pl_m1, pl_lit, fa_litL, pn_bs, ck_n, ckh_n, ck_t, ckh_t, nI_add, nI_clamp, nI_ltI, nI_leI, nI_eq, m1_eq, m1_eq2, m1_lt, m1_le, m1_lt2, m1_le2, m1_m1, nI_m1, nI_subn, gb_n, Nat.add_zero, Nat.zero_add, Nat.zero_or, Nat.or_zero, nle_f, nle_t, nlt_f, nlt_t, neq_f, neq_t, Bool.false_eq_true, eq_self, if_true, if_false, ite_true, ite_false, and_true, true_and, and_false, false_and, decide_true, decide_false, Bool.and_true, Bool.true_and, Bool.and_false, Bool.false_and, Bool.or_false, Bool.false_or, Bool.or_true, Bool.true_or, Bool.not_true, Bool.not_false, not_true_eq_false, not_false_eq_true, e9_inL, eq_false e0]
theorem q_without (hF : 4000 ≤ F) (a : Int32) (h : qR M) : eqW (f_X8_without F a M) (f_X9_without F a) := by
  obtain ⟨D, hW, hC⟩ := id h
  obtain ⟨hT, hS, hX, hL, hG, hB, hFI, hb⟩ := id hC
  have hs8 := hW.1.2.1
  have hn := hW.1.1
  have hpr : ∀ p, p < D 0 0 → D 4 p ≤ 99 := fun p hp => (hW.2.2.2.2.2.2.1 p hp).2
  rcases e8_isLandlord a M with ⟨lo, hlo, rfl, e1⟩ | ⟨e0, e1⟩
  · obtain ⟨C1, c1, ⟨c2, -, -⟩, c5⟩ := e8_dressBest (bn := 0) hF hW (by omega) ⟨hT, hL, qS_8 hS⟩
    have hCR1 : qRC D C1 := qRC_fr hC hW.1.1 hs8 (fun k i q => c5 k i (by unfold qrel at q; omega))
    have ho : f_X7_ownedBy F 3 (nI lo) C1 = some (nI (owS D lo)) := e8_ownedBy (l := lo) hF hW hCR1.1 hlo
    have how : owS D lo < 1024 := bsN_31 _ hn
    obtain ⟨C2, d1, ⟨d2, -, -⟩, d5⟩ := e8_dressBest (bn := owS D lo) hF hW how ⟨hCR1.1, hCR1.2.2.2.1, qS_8 hCR1.2.1⟩
    have hCR2 : qRC D C2 := qRC_fr hCR1 hW.1.1 hs8 (fun k i q => d5 k i (by unfold qrel at q; omega))
    obtain ⟨hT1, hS1, hX1, hL1, hG1, hB1, hFI1, hb1⟩ := id hCR2
    obtain ⟨N1, n1, n2, n3, n4⟩ := e9_leastIn hF hW (bn := 0) (by omega) ⟨hT1, hL1, qS_9 hS1, hb1⟩
    have hRN1 : qRC D N1 := qRC_fr hCR2 hW.1.1 hs8 (fun k i q => n4 k i (by unfold qrel at q; omega))
    have ht0 := tP_fin (bn := 0) (f := D 4) (l := D 0 4) hW hpr
    have ht1 := tP_fin (bn := owS D lo) (f := D 4) (l := D 0 4) hW hpr
    have one1 : ∀ N : gM, f_X9_one (nI 1) N = some (nI 1) := fun N => by
      unfold f_X9_one
      rw [if_neg (by decide)]
      rfl
    have one0 : ∀ N : gM, f_X9_one (nI 0) N = some (nI 0) := fun N => by
      unfold f_X9_one
      rw [if_pos (by decide)]
      rfl
    -- the banned
    have hbl : ∀ v2 : Int32, ∃ N, f_X9_without_h23 F (nI lo) F v2 (nI 0) N1 = f_X9_without_h23 F (nI lo) (F - D 0 0) v2 (nI (D 0 0)) N ∧ N 95 22 = nI (owS D lo) ∧ (∀ k j, ¬ (k = 95 ∧ j = 22) → N k j = N1 k j) := by
      intro v2
      obtain ⟨N, ⟨u1, u2⟩, u3⟩ := up_inv (fun q p (N : gM) => f_X9_without_h23 F (nI lo) q v2 (nI p) N) (D 0 0) (fun p N => N 95 22 = nI (bsN (fun p => decide (D 2 p = lo)) p) ∧ (∀ k j, ¬ (k = 95 ∧ j = 22) → N k j = N1 k j)) (by
        rintro q p N hp ⟨u1, u2⟩
        have v1 : N 108 0 = nI (D 0 0) := by rw [u2 _ _ (by omega)]; exact hRN1.1.2.2.2.1
        have v2' : N 99 p = nI (D 2 p) := by rw [u2 _ _ (by omega)]; exact (hRN1.1.2.2.2.2.2.1 p hp).2.2.2.2.2.2.1
        have v3 := (hW.1.2.2.2.1 p hp).2.1
        have e : bsN (fun p => decide (D 2 p = lo)) (p + 1) = if decide (D 2 p = lo) then bsN (fun p => decide (D 2 p = lo)) p ||| 2 ^ p else bsN (fun p => decide (D 2 p = lo)) p := rfl
        refine ⟨gst N 95 22 (nI (bsN (fun p => decide (D 2 p = lo)) (p + 1))), ⟨by rw [gst_v, if_pos ⟨rfl, rfl⟩], fun k j n1 => by rw [gst_v, if_neg n1]; exact u2 k j n1⟩, ?_⟩
        rw [e]
        show f_X9_without_h23_b F _ _ _ _ _ = _
        unfold f_X9_without_h23_b f_X9_without_b53
        have z0 : nI 0 <<< (nI p &&& nI 31) = nI 0 := by
          have hs : ((nI p &&& 31).toBitVec.smod 32).toNat = p := s_l p (by omega)
          have := pk_shlN (n := 0) (nI p &&& 31) p hs (by omega)
          rw [Nat.zero_mul] at this
          exact this
        by_cases c : D 2 p = lo
        · simp (disch := omega) only [pn_lt, pn_ltM, pl_ofN, ↓pl_m1, pl_lit, fa_litL, pn_bs, ck_n, ckh_n, ck_t, ckh_t, nI_add, nI_clamp, nI_ltI, nI_leI, nI_eq, m1_eq, m1_eq2, m1_lt, m1_le, m1_lt2, m1_le2, m1_m1, nI_m1, nI_subn, gb_n, Nat.add_zero, Nat.zero_add, Nat.zero_or, Nat.or_zero, nle_f, nle_t, nlt_f, nlt_t, neq_f, neq_t, Bool.false_eq_true, eq_self, if_true, if_false, ite_true, ite_false, and_true, true_and, and_false, false_and, decide_true, decide_false, Bool.and_true, Bool.true_and, Bool.and_false, Bool.false_and, Bool.or_false, Bool.false_or, Bool.or_true, Bool.true_or, Bool.not_true, Bool.not_false, not_true_eq_false, not_false_eq_true, v1, v2', c, one1, u1, nI_shl', pl_or]
        · simp (disch := omega) only [pn_lt, pn_ltM, pl_ofN, ↓pl_m1, pl_lit, fa_litL, pn_bs, ck_n, ckh_n, ck_t, ckh_t, nI_add, nI_clamp, nI_ltI, nI_leI, nI_eq, m1_eq, m1_eq2, m1_lt, m1_le, m1_lt2, m1_le2, m1_m1, nI_m1, nI_subn, gb_n, Nat.add_zero, Nat.zero_add, Nat.zero_or, Nat.or_zero, nle_f, nle_t, nlt_f, nlt_t, neq_f, neq_t, Bool.false_eq_true, eq_self, if_true, if_false, ite_true, ite_false, and_true, true_and, and_false, false_and, decide_true, decide_false, Bool.and_true, Bool.true_and, Bool.and_false, Bool.false_and, Bool.or_false, Bool.false_or, Bool.or_true, Bool.true_or, Bool.not_true, Bool.not_false, not_true_eq_false, not_false_eq_true, v1, v2', c, one0, u1, z0, pl_or]) (D 0 0) 0 N1 F (by omega) (by omega) ⟨hRN1.2.2.2.2.2.2.2, fun _ _ _ => rfl⟩
      exact ⟨N, u3, u1, u2⟩
    obtain ⟨NB, b1, b2, b3⟩ := hbl (if tP D 0 (D 4) (D 0 4) < 1000000 then nI (tP D 0 (D 4) (D 0 4)) else m1)
    have hQB : qMR D (owS D lo) NB := ⟨qTW_fr hRN1.1 hW.1.1 hs8 (fun k j q => b3 k j (by omega)), qLK_fr hRN1.2.2.2.1 (fun k j q => b3 k j (by omega)), qS9_fr (qS_9 hRN1.2.1) hn (fun j hj => b3 96 j (by omega)), b2⟩
    obtain ⟨N2, g1, g2, g3, g4⟩ := e9_leastIn hF hW (bn := owS D lo) how hQB
    have hRN2 : qR (gst N2 95 22 (nI 0)) := ⟨D, hW, qRC_fr hRN1 hW.1.1 hs8 (fun k i q => by
      rw [gst_v]
      by_cases e : k = 95 ∧ i = 22
      · rw [if_pos e, e.1, e.2, hRN1.2.2.2.2.2.2.2]
        rfl
      · rw [if_neg e, g4 k i (by unfold qrel at q; omega), b3 k i e])⟩
    have hh108 : NB 108 0 = nI (D 0 0) := hQB.1.2.2.2.1
    -- what both answer
    have n1' : f_X9_leastIn F (nI 0) C2 = some (if tP D 0 (D 4) (D 0 4) < 1000000 then nI (tP D 0 (D 4) (D 0 4)) else m1, N1) := n1
    have g1' : f_X9_leastIn F (nI 0) NB = some (if tP D (owS D lo) (D 4) (D 0 4) < 1000000 then nI (tP D (owS D lo) (D 4) (D 0 4)) else m1, N2) := g1
    have hin : f_X9_in (nI lo).toInt64 (0 : Int64) (3 : Int64) C2 = some (nI 1) := by
      simp (disch := omega) only [pn_lt, pn_ltM, pl_ofN, ↓pl_m1, pl_lit, fa_litL, pn_bs, ck_n, ckh_n, ck_t, ckh_t, nI_add, nI_clamp, nI_ltI, nI_leI, nI_eq, m1_eq, m1_eq2, m1_lt, m1_le, m1_lt2, m1_le2, m1_m1, nI_m1, nI_subn, gb_n, Nat.add_zero, Nat.zero_add, Nat.zero_or, Nat.or_zero, nle_f, nle_t, nlt_f, nlt_t, neq_f, neq_t, Bool.false_eq_true, eq_self, if_true, if_false, ite_true, ite_false, and_true, true_and, and_false, false_and, decide_true, decide_false, Bool.and_true, Bool.true_and, Bool.and_false, Bool.false_and, Bool.or_false, Bool.false_or, Bool.or_true, Bool.true_or, Bool.not_true, Bool.not_false, not_true_eq_false, not_false_eq_true, e9_inL]
    have e9 : f_X9_without F (nI lo) C2 = f_X9_without_h23 F (nI lo) (F - D 0 0) (if tP D 0 (D 4) (D 0 4) < 1000000 then nI (tP D 0 (D 4) (D 0 4)) else m1) (nI (D 0 0)) NB := by
      unfold f_X9_without
      rw [hin, pn_bs, if_neg (by decide), show (0 : Int32) = nI 0 from rfl, n1', pn_bs, pn_lt]
      exact b1
    obtain ⟨n', en⟩ : ∃ n', F - D 0 0 = n' + 1 := ⟨F - D 0 0 - 1, by omega⟩
    rw [en] at e9
    have e8 : f_X8_without F (nI lo) M = if (if tP D 0 (D 4) (D 0 4) = 1000000 then m1 else nI (tP D 0 (D 4) (D 0 4))) = -1 then some (-1, C2) else if (if tP D (owS D lo) (D 4) (D 0 4) = 1000000 then m1 else nI (tP D (owS D lo) (D 4) (D 0 4))) = -1 then some (-1, C2) else some ((if tP D (owS D lo) (D 4) (D 0 4) = 1000000 then m1 else nI (tP D (owS D lo) (D 4) (D 0 4))) - (if tP D 0 (D 4) (D 0 4) = 1000000 then m1 else nI (tP D 0 (D 4) (D 0 4))), C2) := by
      unfold f_X8_without
      rw [e1, pn_bs, if_neg (by decide), show (0 : Int32) = nI 0 from rfl, c1, pn_bs, pn_lt, ho, pn_bs, d1, pn_bs, pn_lt, c2, d2]
    have e9b : f_X9_without F (nI lo) C2 = f_X9_without_h23_b F (nI lo) (f_X9_without_h23 F (nI lo) n') (if tP D 0 (D 4) (D 0 4) < 1000000 then nI (tP D 0 (D 4) (D 0 4)) else m1) (nI (D 0 0)) NB := e9
    unfold eqW
    rw [e8]
    unfold f_X9_without_h23_b at e9b
    rw [show (0 : Int32) = nI 0 from rfl, ck_n _ (by omega) (by omega), nI_clamp (by omega), hh108, if_pos (by rw [nI_leI (by omega) (by omega)]; omega), g1', pn_bs, pn_lt, pn_ltM] at e9b
    dsimp only at e9b
    have hm : m1 < nI 0 := by decide +kernel
    by_cases z0 : tP D 0 (D 4) (D 0 4) = 1000000
    · rw [if_neg (show ¬ tP D 0 (D 4) (D 0 4) < 1000000 by omega), if_pos hm] at e9b
      rw [if_pos z0, if_pos (show m1 = -1 from rfl)]
      exact ⟨-1, C2, _, rfl, e9b, hRN2⟩
    · have l0 : tP D 0 (D 4) (D 0 4) < 1000000 := by omega
      rw [if_pos l0, if_neg (show ¬ nI (tP D 0 (D 4) (D 0 4)) < nI 0 by rw [nI_ltI (by omega) (by omega)]; omega)] at e9b
      rw [if_neg z0, if_neg (nI_ne_m1 (by omega))]
      by_cases z1 : tP D (owS D lo) (D 4) (D 0 4) = 1000000
      · rw [if_neg (show ¬ tP D (owS D lo) (D 4) (D 0 4) < 1000000 by omega), if_neg (show ¬ nI 0 ≤ m1 by decide +kernel)] at e9b
        rw [if_pos z1, if_pos (show m1 = -1 from rfl)]
        exact ⟨-1, C2, _, rfl, e9b, hRN2⟩
      · have l1 : tP D (owS D lo) (D 4) (D 0 4) < 1000000 := by omega
        rw [if_pos l1, if_pos (show nI 0 ≤ nI (tP D (owS D lo) (D 4) (D 0 4)) by rw [nI_leI (by omega) (by omega)]; omega)] at e9b
        rw [if_neg z1, if_neg (nI_ne_m1 (by omega))]
        exact ⟨_, C2, _, rfl, e9b, hRN2⟩
  · refine ⟨-nI 1000000002, M, M, ?_, ?_, h⟩
    · unfold f_X8_without
      rw [e1, pn_bs, if_pos (by decide)]
      rfl
    · unfold f_X9_without
      simp (disch := omega) only [pn_lt, pn_ltM, pl_ofN, ↓pl_m1, pl_lit, fa_litL, pn_bs, ck_n, ckh_n, ck_t, ckh_t, nI_add, nI_clamp, nI_ltI, nI_leI, nI_eq, m1_eq, m1_eq2, m1_lt, m1_le, m1_lt2, m1_le2, m1_m1, nI_m1, nI_subn, gb_n, Nat.add_zero, Nat.zero_add, Nat.zero_or, Nat.or_zero, nle_f, nle_t, nlt_f, nlt_t, neq_f, neq_t, Bool.false_eq_true, eq_self, if_true, if_false, ite_true, ite_false, and_true, true_and, and_false, false_and, decide_true, decide_false, Bool.and_true, Bool.true_and, Bool.and_false, Bool.false_and, Bool.or_false, Bool.false_or, Bool.or_true, Bool.true_or, Bool.not_true, Bool.not_false, not_true_eq_false, not_false_eq_true, e9_inL, eq_false e0]
end EV
