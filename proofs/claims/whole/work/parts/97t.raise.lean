/-! raise -/
/-- the prices raised by r for the landlord -/
def frN (D : Nat → Nat → Nat) (lo r p : Nat) : Nat := if D 2 p = lo then (if D 4 p + r ≤ 99 then D 4 p + r else 99) else D 4 p
/-- the first raise of the greatest rent: it, and one more than the rent -/
def rsS (R : Nat → Nat) : Nat → Nat × Nat
  | 0 => (0, 0)
  | m + 1 => if (rsS R m).2 ≤ R m then (m, R m + 1) else rsS R m
theorem rsS_b {R : Nat → Nat} {c : Nat} (h : ∀ m, R m ≤ c) : ∀ m, (rsS R m).1 ≤ m ∧ (rsS R m).2 ≤ c + 1
  | 0 => ⟨Nat.le_refl _, Nat.zero_le _⟩
  | m + 1 => by
    have ih := rsS_b h m
    have e : rsS R (m + 1) = if (rsS R m).2 ≤ R m then (m, R m + 1) else rsS R m := rfl
    rw [e]
    split
    · have := h m
      exact ⟨by show m ≤ m + 1; omega, by show R m + 1 ≤ c + 1; omega⟩
    · omega
theorem le_dn {a t : Nat} (ha : a < 2 ^ 31) (ht : t < 2 ^ 31) : nI a ≤ dn t ↔ a + 1 ≤ t := by
  cases t with
  | zero =>
    rw [dn_0, m1_le2 ha]
    exact ⟨False.elim, fun q => by omega⟩
  | succ t =>
    rw [dn_s, nI_leI ha (by omega)]
    omega
section EV
variable {F : Nat} {D : Nat → Nat → Nat} {M : gM} {lo : Nat}
theorem frN_le (hW : qWF D) (lo r : Nat) : ∀ p, p < D 0 0 → frN D lo r p ≤ 99 := fun p hp => by
  have := (hW.2.2.2.2.2.2.1 p hp).2
  unfold frN
  split
  · split <;> omega
  · exact this
theorem e5_raise (hF : 4000 ≤ F) (hW : qWF D) (hS : qS8 (D 0 0) D M) {r : Nat} (hr : r ≤ 20) : ∃ M', f_X5_raisePrices F 26 (nI (owS D lo)) (nI r) 94 10 M = some M' ∧ (∀ p, p < D 0 0 → M' 94 p = nI (frN D lo r p)) ∧ (∀ k, k ≠ 94 → M' k = M k) := by
  have hn := hW.1.1
  have how : owS D lo < 1024 := bsN_31 _ hn
  obtain ⟨N, ⟨a1, a2⟩, a3⟩ := up_inv (fun q p (N : gM) => f_X5_raisePrices_h12 F 26 (nI (owS D lo)) (nI r) 94 10 q (nI 10) (nI p) N) 10 (fun i N => (∀ p, p < i → p < D 0 0 → N 94 p = nI (frN D lo r p)) ∧ (∀ k, k ≠ 94 → N k = M k)) (by
    rintro q p N hp ⟨u1, u2⟩
    have e1 := e8_has (a := owS D lo) (j := p) (by omega) (by omega) N
    have r1 : rf 26 1 = 28 := rfl
    have v1 : N 28 p = M 28 p := by rw [u2 _ (by omega)]
    by_cases c : p < D 0 0
    · have v2 := (hS.2.2.2.1 p c).2
      have v3 := (hW.2.2.2.2.2.2.1 p c).2
      have eb : (owS D lo).testBit p = decide (D 2 p = lo) := by
        unfold owS
        rw [bsN_bit, decide_eq_true c, Bool.true_and]
      rw [v2] at v1
      refine ⟨gst N 94 p (nI (frN D lo r p)), ⟨fun p' h1 h2 => ?_, fun k hk => by rw [gst_ne _ _ _ _ hk, u2 k hk]⟩, ?_⟩
      · rw [gst_v]
        by_cases e : p' = p
        · rw [if_pos ⟨rfl, e⟩, e]
        · rw [if_neg (fun z => e z.2)]
          exact u1 p' (by omega) h2
      · show f_X5_raisePrices_h12_b F _ _ _ _ _ _ _ _ _ = _
        unfold f_X5_raisePrices_h12_b frN
        rw [eb] at e1
        by_cases c2 : D 2 p = lo
        · rw [decide_eq_true c2] at e1
          by_cases c3 : D 4 p + r < 99
          · simp (disch := omega) only [pn_lt, pn_ltM, pl_ofN, ↓pl_m1, pl_lit, fa_litL, pn_bs, ck_n, ckh_n, ck_t, ckh_t, nI_add, nI_clamp, nI_ltI, nI_leI, nI_eq, m1_eq, m1_eq2, m1_lt, m1_le, m1_lt2, m1_le2, m1_m1, nI_m1, nI_subn, gb_n, Nat.add_zero, Nat.zero_add, Nat.zero_or, Nat.or_zero, nle_f, nle_t, nlt_f, nlt_t, neq_f, neq_t, Bool.false_eq_true, eq_self, if_true, if_false, ite_true, ite_false, and_true, true_and, and_false, false_and, decide_true, decide_false, Bool.and_true, Bool.true_and, Bool.and_false, Bool.false_and, Bool.or_false, Bool.false_or, Bool.or_true, Bool.true_or, Bool.not_true, Bool.not_false, not_true_eq_false, not_false_eq_true, e1, r1, v1, c2, c3]
          · by_cases c4 : D 4 p + r = 99
            · simp (disch := omega) only [pn_lt, pn_ltM, pl_ofN, ↓pl_m1, pl_lit, fa_litL, pn_bs, ck_n, ckh_n, ck_t, ckh_t, nI_add, nI_clamp, nI_ltI, nI_leI, nI_eq, m1_eq, m1_eq2, m1_lt, m1_le, m1_lt2, m1_le2, m1_m1, nI_m1, nI_subn, gb_n, Nat.add_zero, Nat.zero_add, Nat.zero_or, Nat.or_zero, nle_f, nle_t, nlt_f, nlt_t, neq_f, neq_t, Bool.false_eq_true, eq_self, if_true, if_false, ite_true, ite_false, and_true, true_and, and_false, false_and, decide_true, decide_false, Bool.and_true, Bool.true_and, Bool.and_false, Bool.false_and, Bool.or_false, Bool.false_or, Bool.or_true, Bool.true_or, Bool.not_true, Bool.not_false, not_true_eq_false, not_false_eq_true, e1, r1, v1, c2, c4]
            · simp (disch := omega) only [pn_lt, pn_ltM, pl_ofN, ↓pl_m1, pl_lit, fa_litL, pn_bs, ck_n, ckh_n, ck_t, ckh_t, nI_add, nI_clamp, nI_ltI, nI_leI, nI_eq, m1_eq, m1_eq2, m1_lt, m1_le, m1_lt2, m1_le2, m1_m1, nI_m1, nI_subn, gb_n, Nat.add_zero, Nat.zero_add, Nat.zero_or, Nat.or_zero, nle_f, nle_t, nlt_f, nlt_t, neq_f, neq_t, Bool.false_eq_true, eq_self, if_true, if_false, ite_true, ite_false, and_true, true_and, and_false, false_and, decide_true, decide_false, Bool.and_true, Bool.true_and, Bool.and_false, Bool.false_and, Bool.or_false, Bool.false_or, Bool.or_true, Bool.true_or, Bool.not_true, Bool.not_false, not_true_eq_false, not_false_eq_true, e1, r1, v1, c2]
        · rw [decide_eq_false c2] at e1
          simp (disch := omega) only [pn_lt, pn_ltM, pl_ofN, ↓pl_m1, pl_lit, fa_litL, pn_bs, ck_n, ckh_n, ck_t, ckh_t, nI_add, nI_clamp, nI_ltI, nI_leI, nI_eq, m1_eq, m1_eq2, m1_lt, m1_le, m1_lt2, m1_le2, m1_m1, nI_m1, nI_subn, gb_n, Nat.add_zero, Nat.zero_add, Nat.zero_or, Nat.or_zero, nle_f, nle_t, nlt_f, nlt_t, neq_f, neq_t, Bool.false_eq_true, eq_self, if_true, if_false, ite_true, ite_false, and_true, true_and, and_false, false_and, decide_true, decide_false, Bool.and_true, Bool.true_and, Bool.and_false, Bool.false_and, Bool.or_false, Bool.false_or, Bool.or_true, Bool.true_or, Bool.not_true, Bool.not_false, not_true_eq_false, not_false_eq_true, e1, r1, v1, c2]
    · have eb : (owS D lo).testBit p = false := by
        unfold owS
        rw [bsN_bit, decide_eq_false c, Bool.false_and]
      rw [eb] at e1
      refine ⟨gst N 94 p (M 28 p), ⟨fun p' h1 h2 => ?_, fun k hk => by rw [gst_ne _ _ _ _ hk, u2 k hk]⟩, ?_⟩
      · rw [gst_v, if_neg (by omega)]
        exact u1 p' (by omega) h2
      · show f_X5_raisePrices_h12_b F _ _ _ _ _ _ _ _ _ = _
        unfold f_X5_raisePrices_h12_b
        simp (disch := omega) only [pn_lt, pn_ltM, pl_ofN, ↓pl_m1, pl_lit, fa_litL, pn_bs, ck_n, ckh_n, ck_t, ckh_t, nI_add, nI_clamp, nI_ltI, nI_leI, nI_eq, m1_eq, m1_eq2, m1_lt, m1_le, m1_lt2, m1_le2, m1_m1, nI_m1, nI_subn, gb_n, Nat.add_zero, Nat.zero_add, Nat.zero_or, Nat.or_zero, nle_f, nle_t, nlt_f, nlt_t, neq_f, neq_t, Bool.false_eq_true, eq_self, if_true, if_false, ite_true, ite_false, and_true, true_and, and_false, false_and, decide_true, decide_false, Bool.and_true, Bool.true_and, Bool.and_false, Bool.false_and, Bool.or_false, Bool.false_or, Bool.or_true, Bool.true_or, Bool.not_true, Bool.not_false, not_true_eq_false, not_false_eq_true, e1, r1, v1]) 10 0 M F (by omega) (by omega) ⟨fun p hp => absurd hp (Nat.not_lt_zero _), fun _ _ => rfl⟩
  refine ⟨N, ?_, fun p hp => a1 p (by omega) hp, a2⟩
  unfold f_X5_raisePrices
  have e : (if (10 : Int32) < Int32.ofNat 10 then (10 : Int32) else Int32.ofNat 10) = nI 10 := by decide +kernel
  rw [e, pn_lt]
  refine a3.trans ?_
  obtain ⟨n', en⟩ : ∃ n', F - 10 = n' + 1 := ⟨F - 11, by omega⟩
  rw [en]
  show f_X5_raisePrices_h12_b F _ _ _ _ _ _ _ _ _ = _
  unfold f_X5_raisePrices_h12_b
  simp (disch := omega) only [pn_lt, pn_ltM, pl_ofN, ↓pl_m1, pl_lit, fa_litL, pn_bs, ck_n, ckh_n, ck_t, ckh_t, nI_add, nI_clamp, nI_ltI, nI_leI, nI_eq, m1_eq, m1_eq2, m1_lt, m1_le, m1_lt2, m1_le2, m1_m1, nI_m1, nI_subn, gb_n, Nat.add_zero, Nat.zero_add, Nat.zero_or, Nat.or_zero, nle_f, nle_t, nlt_f, nlt_t, neq_f, neq_t, Bool.false_eq_true, eq_self, if_true, if_false, ite_true, ite_false, and_true, true_and, and_false, false_and, decide_true, decide_false, Bool.and_true, Bool.true_and, Bool.and_false, Bool.false_and, Bool.or_false, Bool.false_or, Bool.or_true, Bool.true_or, Bool.not_true, Bool.not_false, not_true_eq_false, not_false_eq_true]
/-- the class's raises -/
theorem e8_raises (hF : 4000 ≤ F) (hW : qWF D) (hQ : qDR D M) (hG : gth D 0 M) (hlo : lo ≤ 3) {w : Nat} (hw : w ≤ 1) :
    ∃ M', f_X8_raise_h45 F (nI lo) (nI w) F (nI (owS D lo)) (nI 0) m1 (nI 0) M = some (if w = 0 then nI (rsS (fun r => rN D (frN D lo r) (D 0 4) lo) 21).1 else dn (rsS (fun r => rN D (frN D lo r) (D 0 4) lo) 21).2, M') ∧ (∀ k j, (k < 43 ∨ 87 < k ∧ k ≠ 94) → M' k j = M k j) := by
  have hn := hW.1.1
  have hRb : ∀ r, rN D (frN D lo r) (D 0 4) lo ≤ 11880 := fun r => rN_le (frN_le hW lo r) hn _ _
  obtain ⟨⟨x4, x5, N⟩, ⟨a1, a2, a3, a4⟩, a5⟩ := up_inv (fun q r (s : Int32 × Int32 × gM) => f_X8_raise_h45 F (nI lo) (nI w) q (nI (owS D lo)) s.1 s.2.1 (nI r) s.2.2) 21 (fun r s => s.1 = nI (rsS (fun r => rN D (frN D lo r) (D 0 4) lo) r).1 ∧ s.2.1 = dn (rsS (fun r => rN D (frN D lo r) (D 0 4) lo) r).2 ∧ gth D 0 s.2.2 ∧ (∀ k j, (k < 43 ∨ 87 < k ∧ k ≠ 94) → s.2.2 k j = M k j)) (by
    rintro q r ⟨x4, x5, N⟩ hr ⟨u1, u2, u3, u4⟩
    dsimp only at u1 u2 u3 u4
    subst u1; subst u2
    have hQN : qDR D N := qDR_fr hW hQ (fun k j q => u4 k j (by omega))
    obtain ⟨N1, b1, b2, b3⟩ := e5_raise (lo := lo) (r := r) hF hW hQN.2.2 (by omega)
    have hQN1 : qDR D N1 := qDR_fr hW hQN (fun k j q => by rw [b3 k (by omega)])
    have hG1 : gth D 0 N1 := gth_fr u3 (fun k j h1 h2 => by rw [b3 k (by omega)])
    obtain ⟨N2, c1, ⟨c2, c3, -⟩, c4⟩ := e1_dRes (bn := 0) (f := frN D lo r) (l := D 0 4) (o := 94) hF hW (frN_le hW lo r) hW.2.2.2.1 (by omega) hQN1.1 hG1 b2
    have hp8 : f_X1_priceOfWorn F (nI (owS D lo)) 94 10 N2 = some (nI (rN D (frN D lo r) (D 0 4) lo)) := by
      rw [← rN_eq]
      refine e1_priceOfWorn (W := fun h => if tP D 0 (frN D lo r) (D 0 4) = 1000000 then 0 else wO D 0 (frN D lo r) (D 0 4) h) hF (frN_le hW lo r) hn (fun h hh => ⟨c3 h hh, ?_⟩) (fun p hp => by rw [c4 _ _ (by omega)]; exact b2 p hp)
      by_cases z : tP D 0 (frN D lo r) (D 0 4) = 1000000
      · rw [if_pos z]; exact Nat.two_pow_pos _
      · rw [if_neg z]
        have htf := tP_fin (bn := 0) (f := frN D lo r) (l := D 0 4) hW (frN_le hW lo r)
        exact (wO_ok hW (by omega) hh).2
    have hR := hRb r
    obtain ⟨d1, d2⟩ := rsS_b hRb r
    have e : rsS (fun r => rN D (frN D lo r) (D 0 4) lo) (r + 1) = if (rsS (fun r => rN D (frN D lo r) (D 0 4) lo) r).2 ≤ rN D (frN D lo r) (D 0 4) lo then (r, rN D (frN D lo r) (D 0 4) lo + 1) else rsS (fun r => rN D (frN D lo r) (D 0 4) lo) r := rfl
    refine ⟨(nI (rsS (fun r => rN D (frN D lo r) (D 0 4) lo) (r + 1)).1, dn (rsS (fun r => rN D (frN D lo r) (D 0 4) lo) (r + 1)).2, N2), ⟨rfl, rfl, gth_fr hG1 (fun k j h1 h2 => c4 k j (by omega)), fun k j hk => ?_⟩, ?_⟩
    · show N2 k j = _
      rw [c4 k j (by omega), b3 k (by omega), u4 k j hk]
    · show f_X8_raise_h45_b F (nI lo) (nI w) (f_X8_raise_h45 F (nI lo) (nI w) q) (nI (owS D lo)) (nI (rsS (fun r => rN D (frN D lo r) (D 0 4) lo) r).1) (dn (rsS (fun r => rN D (frN D lo r) (D 0 4) lo) r).2) (nI r) N = f_X8_raise_h45 F (nI lo) (nI w) q (nI (owS D lo)) (nI (rsS (fun r => rN D (frN D lo r) (D 0 4) lo) (r + 1)).1) (dn (rsS (fun r => rN D (frN D lo r) (D 0 4) lo) (r + 1)).2) (nI (r + 1)) N2
      rw [e]
      generalize rsS (fun r => rN D (frN D lo r) (D 0 4) lo) r = S at *
      generalize rN D (frN D lo r) (D 0 4) lo = R at *
      have hlaw : N1 26 5 = nI (D 0 4) := hQN1.2.2.2.1
      unfold f_X8_raise_h45_b
      rw [if_neg (by rw [show (20 : Int32) = nI 20 from rfl, nI_ltI (by omega) (by omega)]; omega), b1, pn_bs, hlaw, c1, pn_bs, hp8, pn_bs]
      have e1 : nI r + (1 : Int32) = nI (r + 1) := nI_add r 1
      rw [e1]
      by_cases z : S.2 ≤ R
      · rw [if_neg (by rw [le_dn (by omega) (by omega)]; omega), if_pos z, dn_s]
      · rw [if_pos (by rw [le_dn (by omega) (by omega)]; omega), if_neg z]) 21 0 (nI 0, m1, M) F (by omega) (by omega) ⟨rfl, dn_0.symm, hG, fun _ _ _ => rfl⟩
  dsimp only at a1 a2 a3 a4 a5
  refine ⟨N, a5.trans ?_, a4⟩
  obtain ⟨n', en⟩ : ∃ n', F - 21 = n' + 1 := ⟨F - 22, by omega⟩
  rw [en, a1, a2]
  show f_X8_raise_h45_b F _ _ _ _ _ _ _ _ = _
  unfold f_X8_raise_h45_b
  rw [if_pos (by decide)]
  by_cases z : w = 0
  · rw [if_pos (by rw [z]; rfl), if_pos z]
  · rw [if_neg (by rw [show (0 : Int32) = nI 0 from rfl, nI_eq (by omega) (by omega)]; exact z), if_neg z]
/-- the model's raises -/
theorem e9_raises (hF : 4000 ≤ F) (hW : qWF D) (hQ : qMR D 0 M) (hA : aRow (aB D 0) M) (hlo : lo ≤ 3) {w : Nat} (hw : w ≤ 1) :
    ∃ M', f_X9_raise_h38 F (nI lo) (nI w) F (nI 0) m1 (nI 0) M = some (if w = 0 then nI (rsS (fun r => rN D (frN D lo r) (D 0 4) lo) 21).1 else dn (rsS (fun r => rN D (frN D lo r) (D 0 4) lo) 21).2, M') ∧ (∀ k j, ¬ (k = 96 ∧ 40 ≤ j ∧ j < 80) → k ≠ 112 → k ≠ 115 → M' k j = M k j) := by
  have hn := hW.1.1
  have hRb : ∀ r, rN D (frN D lo r) (D 0 4) lo ≤ 11880 := fun r => rN_le (frN_le hW lo r) hn _ _
  obtain ⟨⟨x3, x4, N⟩, ⟨a1, a2, a4⟩, a5⟩ := up_inv (fun q r (s : Int32 × Int32 × gM) => f_X9_raise_h38 F (nI lo) (nI w) q s.1 s.2.1 (nI r) s.2.2) 21 (fun r s => s.1 = nI (rsS (fun r => rN D (frN D lo r) (D 0 4) lo) r).1 ∧ s.2.1 = dn (rsS (fun r => rN D (frN D lo r) (D 0 4) lo) r).2 ∧ (∀ k j, ¬ (k = 96 ∧ 40 ≤ j ∧ j < 80) → k ≠ 112 → k ≠ 115 → s.2.2 k j = M k j)) (by
    rintro q r ⟨x3, x4, N⟩ hr ⟨u1, u2, u4⟩
    dsimp only at u1 u2 u4
    subst u1; subst u2
    obtain ⟨N1, b1, b2, b3, b4⟩ := e9_copy (x := 0) (y := 40) hF (by omega) (by omega) (by omega) N
    have fN1 : ∀ k j, ¬ (k = 96 ∧ 40 ≤ j ∧ j < 80) → k ≠ 112 → k ≠ 115 → N1 k j = M k j := fun k j n1 n2 n3 => by
      by_cases e : k = 96
      · subst e
        rw [b4 j (by omega), u4 _ _ n1 n2 n3]
      · rw [b2 k e, u4 k j n1 n2 n3]
    have hQ1 : qMR D 0 N1 := qMR_fr hW hQ (fun k j q => fN1 k j (by omega) (by omega) (by omega))
    have h108 := hQ1.1.2.2.2.1
    have hlaw : N1 96 71 = nI (D 0 4) := by
      have := b3 31 (by omega)
      rw [show 40 + 31 = 71 by omega, Nat.zero_add] at this
      rw [this, u4 _ _ (by omega) (by omega) (by omega)]
      exact hQ.2.2.1.2.1
    -- the prices
    obtain ⟨N2, ⟨c1, c2⟩, c3⟩ := up_inv (fun q' p (N : gM) => f_X9_raise_h55 F (nI lo) (nI w) (f_X9_raise_h38 F (nI lo) (nI w) q) q' (nI (rsS (fun r => rN D (frN D lo r) (D 0 4) lo) r).1) (dn (rsS (fun r => rN D (frN D lo r) (D 0 4) lo) r).2) (nI r) (nI p) N) (D 0 0) (fun i N' => (∀ p, p < i → N' 96 (50 + p) = nI (frN D lo r p)) ∧ (∀ k j, ¬ (k = 96 ∧ 50 ≤ j ∧ j < 60) → N' k j = N1 k j)) (by
      rintro q' p N' hp ⟨w1, w2⟩
      have v1 : N' 108 0 = nI (D 0 0) := by rw [w2 _ _ (by omega)]; exact h108
      have v2 : N' 99 p = nI (D 2 p) := by rw [w2 _ _ (by omega)]; exact (hQ1.1.2.2.2.2.2.1 p hp).2.2.2.2.2.2.1
      have v3 : N' 96 (10 + p) = nI (D 4 p) := by rw [w2 _ _ (by omega)]; exact (hQ1.2.2.1.2.2.2 p hp).2.1
      have v4 := (hW.1.2.2.2.1 p hp).2.1
      have v5 := (hW.2.2.2.2.2.2.1 p hp).2
      refine ⟨gst N' 96 (50 + p) (nI (frN D lo r p)), ⟨fun p' h1 => ?_, fun k j n1 => by rw [gst_v, if_neg (by omega)]; exact w2 k j n1⟩, ?_⟩
      · rw [gst_v]
        by_cases e : p' = p
        · rw [if_pos ⟨rfl, by omega⟩, e]
        · rw [if_neg (by omega)]
          exact w1 p' (by omega)
      · show f_X9_raise_h55_b F _ _ _ _ _ _ _ _ _ = _
        unfold f_X9_raise_h55_b f_X9_raise_b93 frN
        by_cases c2 : D 2 p = lo
        · by_cases c3 : D 4 p + r ≤ 99
          · simp (disch := omega) only [pn_lt, pn_ltM, pl_ofN, ↓pl_m1, pl_lit, fa_litL, pn_bs, ck_n, ckh_n, ck_t, ckh_t, nI_add, nI_clamp, nI_ltI, nI_leI, nI_eq, m1_eq, m1_eq2, m1_lt, m1_le, m1_lt2, m1_le2, m1_m1, nI_m1, nI_subn, gb_n, Nat.add_zero, Nat.zero_add, Nat.zero_or, Nat.or_zero, nle_f, nle_t, nlt_f, nlt_t, neq_f, neq_t, Bool.false_eq_true, eq_self, if_true, if_false, ite_true, ite_false, and_true, true_and, and_false, false_and, decide_true, decide_false, Bool.and_true, Bool.true_and, Bool.and_false, Bool.false_and, Bool.or_false, Bool.false_or, Bool.or_true, Bool.true_or, Bool.not_true, Bool.not_false, not_true_eq_false, not_false_eq_true, v1, v2, v3, c2, c3]
          · simp (disch := omega) only [pn_lt, pn_ltM, pl_ofN, ↓pl_m1, pl_lit, fa_litL, pn_bs, ck_n, ckh_n, ck_t, ckh_t, nI_add, nI_clamp, nI_ltI, nI_leI, nI_eq, m1_eq, m1_eq2, m1_lt, m1_le, m1_lt2, m1_le2, m1_m1, nI_m1, nI_subn, gb_n, Nat.add_zero, Nat.zero_add, Nat.zero_or, Nat.or_zero, nle_f, nle_t, nlt_f, nlt_t, neq_f, neq_t, Bool.false_eq_true, eq_self, if_true, if_false, ite_true, ite_false, and_true, true_and, and_false, false_and, decide_true, decide_false, Bool.and_true, Bool.true_and, Bool.and_false, Bool.false_and, Bool.or_false, Bool.false_or, Bool.or_true, Bool.true_or, Bool.not_true, Bool.not_false, not_true_eq_false, not_false_eq_true, v1, v2, v3, c2, c3]
        · simp (disch := omega) only [pn_lt, pn_ltM, pl_ofN, ↓pl_m1, pl_lit, fa_litL, pn_bs, ck_n, ckh_n, ck_t, ckh_t, nI_add, nI_clamp, nI_ltI, nI_leI, nI_eq, m1_eq, m1_eq2, m1_lt, m1_le, m1_lt2, m1_le2, m1_m1, nI_m1, nI_subn, gb_n, Nat.add_zero, Nat.zero_add, Nat.zero_or, Nat.or_zero, nle_f, nle_t, nlt_f, nlt_t, neq_f, neq_t, Bool.false_eq_true, eq_self, if_true, if_false, ite_true, ite_false, and_true, true_and, and_false, false_and, decide_true, decide_false, Bool.and_true, Bool.true_and, Bool.and_false, Bool.false_and, Bool.or_false, Bool.false_or, Bool.or_true, Bool.true_or, Bool.not_true, Bool.not_false, not_true_eq_false, not_false_eq_true, v1, v2, v3, c2]) (D 0 0) 0 N1 F (by omega) (by omega) ⟨fun p hp => absurd hp (Nat.not_lt_zero _), fun _ _ _ => rfl⟩
    have hQ2 : qMR D 0 N2 := qMR_fr hW hQ1 (fun k j q => c2 k j (by omega))
    have hP : pRow D (frN D lo r) (D 0 4) 40 N2 := ⟨fun p hp => c1 p hp, by rw [c2 _ _ (by omega)]; exact hlaw, hQ2.1⟩
    have hA2 : aRow (aB D 0) N2 := fun h hh a ha => by
      rw [c2 _ _ (by omega), fN1 _ _ (by omega) (by omega) (by omega)]
      exact hA h hh a ha
    obtain ⟨N3, d1, d2⟩ := e9_rentIn (lo := lo) hF hW hP hA2 (frN_le hW lo r) hW.2.2.2.1 (by omega) hlo
    have hR := hRb r
    obtain ⟨d3, d4⟩ := rsS_b hRb r
    have e : rsS (fun r => rN D (frN D lo r) (D 0 4) lo) (r + 1) = if (rsS (fun r => rN D (frN D lo r) (D 0 4) lo) r).2 ≤ rN D (frN D lo r) (D 0 4) lo then (r, rN D (frN D lo r) (D 0 4) lo + 1) else rsS (fun r => rN D (frN D lo r) (D 0 4) lo) r := rfl
    refine ⟨(nI (rsS (fun r => rN D (frN D lo r) (D 0 4) lo) (r + 1)).1, dn (rsS (fun r => rN D (frN D lo r) (D 0 4) lo) (r + 1)).2, N3), ⟨rfl, rfl, fun k j n1 n2 n3 => ?_⟩, ?_⟩
    · show N3 k j = _
      rw [d2 k n2 n3, c2 k j (by omega), fN1 k j n1 n2 n3]
    · have hh108 : N2 108 0 = nI (D 0 0) := hQ2.1.2.2.2.1
      obtain ⟨n', en⟩ : ∃ n', F - D 0 0 = n' + 1 := ⟨F - D 0 0 - 1, by omega⟩
      rw [en] at c3
      show f_X9_raise_h38_b F (nI lo) (nI w) (f_X9_raise_h38 F (nI lo) (nI w) q) (nI (rsS (fun r => rN D (frN D lo r) (D 0 4) lo) r).1) (dn (rsS (fun r => rN D (frN D lo r) (D 0 4) lo) r).2) (nI r) N = f_X9_raise_h38 F (nI lo) (nI w) q (nI (rsS (fun r => rN D (frN D lo r) (D 0 4) lo) (r + 1)).1) (dn (rsS (fun r => rN D (frN D lo r) (D 0 4) lo) (r + 1)).2) (nI (r + 1)) N3
      unfold f_X9_raise_h38_b
      rw [if_neg (by rw [show (20 : Int32) = nI 20 from rfl, nI_ltI (by omega) (by omega)]; omega), show (0 : Int32) = nI 0 from rfl, show (40 : Int32) = nI 40 from rfl, b1, pn_bs]
      refine c3.trans ?_
      rw [e]
      generalize rsS (fun r => rN D (frN D lo r) (D 0 4) lo) r = S at *
      generalize rN D (frN D lo r) (D 0 4) lo = R at *
      have e1 : nI r + (1 : Int32) = nI (r + 1) := nI_add r 1
      show f_X9_raise_h55_b F _ _ _ _ _ _ _ _ _ = _
      unfold f_X9_raise_h55_b
      rw [show (0 : Int32) = nI 0 from rfl, ck_n _ (by omega) (by omega), nI_clamp (by omega), hh108, if_pos (by rw [nI_leI (by omega) (by omega)]; omega), show (40 : Int32) = nI 40 from rfl, d1, pn_bs, pn_lt, e1]
      dsimp only
      by_cases z : S.2 ≤ R
      · rw [if_neg (by rw [le_dn (by omega) (by omega)]; omega), if_pos z, dn_s]
      · rw [if_pos (by rw [le_dn (by omega) (by omega)]; omega), if_neg z]) 21 0 (nI 0, m1, M) F (by omega) (by omega) ⟨rfl, dn_0.symm, fun _ _ _ _ _ => rfl⟩
  dsimp only at a1 a2 a4 a5
  refine ⟨N, a5.trans ?_, a4⟩
  obtain ⟨n', en⟩ : ∃ n', F - 21 = n' + 1 := ⟨F - 22, by omega⟩
  rw [en, a1, a2]
  show f_X9_raise_h38_b F _ _ _ _ _ _ _ = _
  unfold f_X9_raise_h38_b
  rw [if_pos (by decide)]
  by_cases z : w = 0
  · rw [if_pos (by rw [z]; rfl), if_pos z]
  · rw [if_neg (by rw [show (0 : Int32) = nI 0 from rfl, nI_eq (by omega) (by omega)]; exact z), if_neg z]
theorem q_raise (hF : 4000 ≤ F) (a b : Int32) (h : qR M) : eqW (f_X8_raise F a b M) (f_X9_raise F a b) := by
  obtain ⟨D, hW, hC⟩ := id h
  obtain ⟨hT, hS, hX, hL, hG, hB, hFI, hb⟩ := id hC
  have hs8 := hW.1.2.1
  unfold eqW f_X8_raise f_X9_raise
  rcases e8_isLandlord a M with ⟨lo, hlo, rfl, e1⟩ | ⟨e0, e1⟩
  · rcases rg_le b 1 (by omega) with h0 | h0 | ⟨w, hw, rfl⟩
    · exact ⟨-nI 1000000002, M, M, by simp (disch := omega) only [pn_lt, pn_ltM, pl_ofN, ↓pl_m1, pl_lit, fa_litL, pn_bs, ck_n, ckh_n, ck_t, ckh_t, nI_add, nI_clamp, nI_ltI, nI_leI, nI_eq, m1_eq, m1_eq2, m1_lt, m1_le, m1_lt2, m1_le2, m1_m1, nI_m1, nI_subn, gb_n, Nat.add_zero, Nat.zero_add, Nat.zero_or, Nat.or_zero, nle_f, nle_t, nlt_f, nlt_t, neq_f, neq_t, Bool.false_eq_true, eq_self, if_true, if_false, ite_true, ite_false, and_true, true_and, and_false, false_and, decide_true, decide_false, Bool.and_true, Bool.true_and, Bool.and_false, Bool.false_and, Bool.or_false, Bool.false_or, Bool.or_true, Bool.true_or, Bool.not_true, Bool.not_false, not_true_eq_false, not_false_eq_true, e1, i_lt h0], by simp (disch := omega) only [pn_lt, pn_ltM, pl_ofN, ↓pl_m1, pl_lit, fa_litL, pn_bs, ck_n, ckh_n, ck_t, ckh_t, nI_add, nI_clamp, nI_ltI, nI_leI, nI_eq, m1_eq, m1_eq2, m1_lt, m1_le, m1_lt2, m1_le2, m1_m1, nI_m1, nI_subn, gb_n, Nat.add_zero, Nat.zero_add, Nat.zero_or, Nat.or_zero, nle_f, nle_t, nlt_f, nlt_t, neq_f, neq_t, Bool.false_eq_true, eq_self, if_true, if_false, ite_true, ite_false, and_true, true_and, and_false, false_and, decide_true, decide_false, Bool.and_true, Bool.true_and, Bool.and_false, Bool.false_and, Bool.or_false, Bool.false_or, Bool.or_true, Bool.true_or, Bool.not_true, Bool.not_false, not_true_eq_false, not_false_eq_true, e9_inL, i_nle h0], h⟩
    · exact ⟨-nI 1000000002, M, M, by simp (disch := omega) only [pn_lt, pn_ltM, pl_ofN, ↓pl_m1, pl_lit, fa_litL, pn_bs, ck_n, ckh_n, ck_t, ckh_t, nI_add, nI_clamp, nI_ltI, nI_leI, nI_eq, m1_eq, m1_eq2, m1_lt, m1_le, m1_lt2, m1_le2, m1_m1, nI_m1, nI_subn, gb_n, Nat.add_zero, Nat.zero_add, Nat.zero_or, Nat.or_zero, nle_f, nle_t, nlt_f, nlt_t, neq_f, neq_t, Bool.false_eq_true, eq_self, if_true, if_false, ite_true, ite_false, and_true, true_and, and_false, false_and, decide_true, decide_false, Bool.and_true, Bool.true_and, Bool.and_false, Bool.false_and, Bool.or_false, Bool.false_or, Bool.or_true, Bool.true_or, Bool.not_true, Bool.not_false, not_true_eq_false, not_false_eq_true, e1, i_lt0 h0, i_nle h0], by simp (disch := omega) only [pn_lt, pn_ltM, pl_ofN, ↓pl_m1, pl_lit, fa_litL, pn_bs, ck_n, ckh_n, ck_t, ckh_t, nI_add, nI_clamp, nI_ltI, nI_leI, nI_eq, m1_eq, m1_eq2, m1_lt, m1_le, m1_lt2, m1_le2, m1_m1, nI_m1, nI_subn, gb_n, Nat.add_zero, Nat.zero_add, Nat.zero_or, Nat.or_zero, nle_f, nle_t, nlt_f, nlt_t, neq_f, neq_t, Bool.false_eq_true, eq_self, if_true, if_false, ite_true, ite_false, and_true, true_and, and_false, false_and, decide_true, decide_false, Bool.and_true, Bool.true_and, Bool.and_false, Bool.false_and, Bool.or_false, Bool.false_or, Bool.or_true, Bool.true_or, Bool.not_true, Bool.not_false, not_true_eq_false, not_false_eq_true, e9_inL, i_nle h0], h⟩
    · have ho : f_X7_ownedBy F 3 (nI lo) M = some (nI (owS D lo)) := e8_ownedBy (l := lo) hF hW hT hlo
      obtain ⟨C1, c1, c2, c3⟩ := e1_gather (bn := 0) hF hW (by omega) ⟨hT, hL, qS_8 hS⟩
      have hQ1 : qDR D C1 := qDR_fr hW ⟨hT, hL, qS_8 hS⟩ (fun k j q => c3 k j (by omega))
      obtain ⟨C2, d1, d2⟩ := e8_raises (lo := lo) hF hW hQ1 c2 hlo hw
      have hCR : qRC D C2 := qRC_fr hC hW.1.1 hs8 (fun k i q => by rw [d2 k i (by unfold qrel at q; omega), c3 k i (by unfold qrel at q; omega)])
      obtain ⟨hT1, hS1, hX1, hL1, hG1, hB1, hFI1, hb1⟩ := id hCR
      obtain ⟨N, n1, n2, n3⟩ := e9_findAllSets (bn := 0) hF hW (by omega) ⟨hT1, hL1, qS_9 hS1, hb1⟩
      have hRN : qRC D N := qRC_fr hCR hW.1.1 hs8 (fun k i q => n3 k i (by unfold qrel at q; omega) (by unfold qrel at q; omega) (by unfold qrel at q; omega))
      obtain ⟨N2, g1, g2⟩ := e9_raises (lo := lo) hF hW ⟨hRN.1, hRN.2.2.2.1, qS_9 hRN.2.1, hRN.2.2.2.2.2.2.2⟩ (aRow_of n2) hlo hw
      have hRN2 : qR N2 := ⟨D, hW, qRC_fr hRN hW.1.1 hs8 (fun k i q => g2 k i (by unfold qrel at q; omega) (by unfold qrel at q; omega) (by unfold qrel at q; omega))⟩
      refine ⟨if w = 0 then nI (rsS (fun r => rN D (frN D lo r) (D 0 4) lo) 21).1 else dn (rsS (fun r => rN D (frN D lo r) (D 0 4) lo) 21).2, C2, N2, ?_, ?_, hRN2⟩
      · rw [e1, pn_bs, if_neg (by decide), if_neg (nI_pos (by omega)), if_pos (by rw [show (1 : Int32) = nI 1 from rfl, nI_leI (by omega) (by omega)]; omega), ho, pn_bs, show (0 : Int32) = nI 0 from rfl, c1, pn_bs]
        exact d1
      · have i1 : f_X9_in (nI lo).toInt64 (0 : Int64) (3 : Int64) C2 = some (nI 1) := by
          simp (disch := omega) only [pn_lt, pn_ltM, pl_ofN, ↓pl_m1, pl_lit, fa_litL, pn_bs, ck_n, ckh_n, ck_t, ckh_t, nI_add, nI_clamp, nI_ltI, nI_leI, nI_eq, m1_eq, m1_eq2, m1_lt, m1_le, m1_lt2, m1_le2, m1_m1, nI_m1, nI_subn, gb_n, Nat.add_zero, Nat.zero_add, Nat.zero_or, Nat.or_zero, nle_f, nle_t, nlt_f, nlt_t, neq_f, neq_t, Bool.false_eq_true, eq_self, if_true, if_false, ite_true, ite_false, and_true, true_and, and_false, false_and, decide_true, decide_false, Bool.and_true, Bool.true_and, Bool.and_false, Bool.false_and, Bool.or_false, Bool.false_or, Bool.or_true, Bool.true_or, Bool.not_true, Bool.not_false, not_true_eq_false, not_false_eq_true, e9_inL]
        have i2 : f_X9_in (nI w).toInt64 (0 : Int64) (1 : Int64) C2 = some (nI 1) := by
          simp (disch := omega) only [pn_lt, pn_ltM, pl_ofN, ↓pl_m1, pl_lit, fa_litL, pn_bs, ck_n, ckh_n, ck_t, ckh_t, nI_add, nI_clamp, nI_ltI, nI_leI, nI_eq, m1_eq, m1_eq2, m1_lt, m1_le, m1_lt2, m1_le2, m1_m1, nI_m1, nI_subn, gb_n, Nat.add_zero, Nat.zero_add, Nat.zero_or, Nat.or_zero, nle_f, nle_t, nlt_f, nlt_t, neq_f, neq_t, Bool.false_eq_true, eq_self, if_true, if_false, ite_true, ite_false, and_true, true_and, and_false, false_and, decide_true, decide_false, Bool.and_true, Bool.true_and, Bool.and_false, Bool.false_and, Bool.or_false, Bool.false_or, Bool.or_true, Bool.true_or, Bool.not_true, Bool.not_false, not_true_eq_false, not_false_eq_true, e9_inL]
        rw [i1, pn_bs, if_neg (by decide), i2, pn_bs, if_neg (by decide), show (0 : Int32) = nI 0 from rfl, n1, pn_bs]
        exact g1
  · exact ⟨-nI 1000000002, M, M, by simp (disch := omega) only [pn_lt, pn_ltM, pl_ofN, ↓pl_m1, pl_lit, fa_litL, pn_bs, ck_n, ckh_n, ck_t, ckh_t, nI_add, nI_clamp, nI_ltI, nI_leI, nI_eq, m1_eq, m1_eq2, m1_lt, m1_le, m1_lt2, m1_le2, m1_m1, nI_m1, nI_subn, gb_n, Nat.add_zero, Nat.zero_add, Nat.zero_or, Nat.or_zero, nle_f, nle_t, nlt_f, nlt_t, neq_f, neq_t, Bool.false_eq_true, eq_self, if_true, if_false, ite_true, ite_false, and_true, true_and, and_false, false_and, decide_true, decide_false, Bool.and_true, Bool.true_and, Bool.and_false, Bool.false_and, Bool.or_false, Bool.false_or, Bool.or_true, Bool.true_or, Bool.not_true, Bool.not_false, not_true_eq_false, not_false_eq_true, e1], by simp (disch := omega) only [pn_lt, pn_ltM, pl_ofN, ↓pl_m1, pl_lit, fa_litL, pn_bs, ck_n, ckh_n, ck_t, ckh_t, nI_add, nI_clamp, nI_ltI, nI_leI, nI_eq, m1_eq, m1_eq2, m1_lt, m1_le, m1_lt2, m1_le2, m1_m1, nI_m1, nI_subn, gb_n, Nat.add_zero, Nat.zero_add, Nat.zero_or, Nat.or_zero, nle_f, nle_t, nlt_f, nlt_t, neq_f, neq_t, Bool.false_eq_true, eq_self, if_true, if_false, ite_true, ite_false, and_true, true_and, and_false, false_and, decide_true, decide_false, Bool.and_true, Bool.true_and, Bool.and_false, Bool.false_and, Bool.or_false, Bool.false_or, Bool.or_true, Bool.true_or, Bool.not_true, Bool.not_false, not_true_eq_false, not_false_eq_true, e9_inL, eq_false e0], h⟩
end EV
