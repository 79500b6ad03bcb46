/-! the best dressing at the class -/
theorem lists_of {D : Nat → Nat → Nat} (hW : qWF D) {bn : Nat} {M : gM} (h0 : ∀ h, h < 12 → hI (CR D bn h 0 (D 0 1)) M h) :
    ∃ (CN : Nat → Nat) (ST CD : Nat → Nat → Nat), (∀ h, h < 12 → hT (aB D bn) (D 0 0) M h (CN h) (ST h)) ∧ (∀ h, h < 12 → ∀ k, k < CN h → M (60 + h) k = nI (CD h k) ∧ CD h k < 262144) ∧ ∀ h, h < 12 → ∀ k, k < CN h → minC D bn h 0 (D 0 1) (ST h k) (CD h k) := by
  have H : ∀ h, ∃ x : Nat × (Nat → Nat) × (Nat → Nat), h < 12 → (x.1 ≤ 64 ∧ M 44 h = nI x.1 ∧ (∀ k, k < x.1 → M (46 + h) k = nI (x.2.1 k) ∧ M (60 + h) k = nI (x.2.2 k)) ∧ (∀ i j, i < j → j < x.1 → x.2.1 i < x.2.1 j) ∧ (∀ k, k < x.1 → CR D bn h 0 (D 0 1) (x.2.1 k) (x.2.2 k)) ∧ (∀ a c, CR D bn h 0 (D 0 1) a c → ∃ k, k < x.1 ∧ x.2.1 k = a ∧ x.2.2 k ≤ c)) := by
    intro h
    by_cases q : h < 12
    · obtain ⟨cnt, st, cd, b⟩ := h0 h q
      exact ⟨(cnt, st, cd), fun _ => b⟩
    · exact ⟨(0, id, id), fun q2 => absurd q2 q⟩
  obtain ⟨X, hX⟩ := Classical.axiomOfChoice H
  refine ⟨fun h => (X h).1, fun h => (X h).2.1, fun h => (X h).2.2, fun h hh => ?_, fun h hh k hk => ?_, fun h hh k hk => ?_⟩
  · obtain ⟨a1, a2, a3, a4, a5, a6⟩ := hX h hh
    refine ⟨a1, a2, fun k hk => ⟨(a3 k hk).1, CR_lt hW (a5 k hk), CR_1024 hW (a5 k hk)⟩, a4, fun k hk => aB_iff.mpr ⟨_, a5 k hk⟩, fun a ha => ?_⟩
    obtain ⟨c, hc⟩ := aB_iff.mp ha
    obtain ⟨k, b1, b2, -⟩ := a6 a c hc
    exact ⟨k, b1, b2⟩
  · obtain ⟨a1, a2, a3, a4, a5, a6⟩ := hX h hh
    exact ⟨(a3 k hk).2, CR_c18 hW (a5 k hk)⟩
  · obtain ⟨a1, a2, a3, a4, a5, a6⟩ := hX h hh
    refine ⟨a5 k hk, fun c' hc' => ?_⟩
    obtain ⟨k', b1, b2, b3⟩ := a6 _ c' hc'
    have hk0 : k < (X h).1 := hk
    have b20 : (X h).2.1 k' = (X h).2.1 k := b2
    have e : k' = k := by
      rcases Nat.lt_trichotomy k' k with z | z | z
      · have := a4 k' k z hk0
        omega
      · exact z
      · have := a4 k k' z b1
        omega
    rw [e] at b3
    exact b3
/-- the sets are gathered -/
def gth (D : Nat → Nat → Nat) (bn : Nat) (M : gM) : Prop := ∀ h, h < 12 → hI (CR D bn h 0 (D 0 1)) M h
theorem gth_fr {D : Nat → Nat → Nat} {bn : Nat} {M M' : gM} (q : gth D bn M) (e : ∀ k j, 44 ≤ k → k ≤ 72 → M' k j = M k j) : gth D bn M' := fun h hh =>
  hI_fr (q h hh) (e _ _ (by omega) (by omega)) (funext fun j => e _ _ (by omega) (by omega)) (funext fun j => e _ _ (by omega) (by omega))
/-- the least price of all hours -/
noncomputable def tP (D : Nat → Nat → Nat) (bn : Nat) (f : Nat → Nat) (l : Nat) : Nat := lcm (aB D bn) f (D 0 0) l 12 0
/-- what is worn in the hour -/
noncomputable def wO (D : Nat → Nat → Nat) (bn : Nat) (f : Nat → Nat) (l h : Nat) : Nat := wrN (aB D bn) f (D 0 0) l (h + 1)
/-- what the choice leaves -/
def dRes (D : Nat → Nat → Nat) (bn : Nat) (f : Nat → Nat) (l : Nat) (M : gM) : Prop :=
  M 43 8 = (if tP D bn f l = 1000000 then m1 else nI (tP D bn f l)) ∧ (∀ h, h < 12 → M 86 h = nI (if tP D bn f l = 1000000 then 0 else wO D bn f l h)) ∧
  (tP D bn f l < 1000000 → ∀ s, s < D 0 1 → ∃ c, minC D bn (D 9 s) 0 (D 0 1) (wO D bn f l (D 9 s)) c ∧ M 87 s = nI (c / 64 ^ hk D (D 9 s) (s + 1) (D 0 1 - (s + 1)) % 64))
section EV
variable {F : Nat} {D : Nat → Nat → Nat} {M : gM} {bn : Nat} {f : Nat → Nat} {l : Nat}
theorem tP_fin (hW : qWF D) (hf : ∀ p, p < D 0 0 → f p ≤ 99) : tP D bn f l = 1000000 ∨ tP D bn f l ≤ 11880 := lcm_fin hf hW.1.1 (Nat.le_refl _)
theorem wO_ok (hW : qWF D) (h1 : tP D bn f l < 1000000) {h : Nat} (hh : h < 12) : wO D bn f l h < 1024 ∧ wO D bn f l h < 2 ^ D 0 0 := by
  obtain ⟨g1, g2, -⟩ := wr_P (A := aB D bn) (f := f) (n := D 0 0) (l := l) h1 hh
  obtain ⟨c, hc⟩ := aB_iff.mp g2
  exact ⟨g1, CR_lt hW hc⟩
theorem e1_dRes (hF : 4000 ≤ F) (hW : qWF D) (hf : ∀ p, p < D 0 0 → f p ≤ 99) (hl : l ≤ 1) {o : Nat} (ho : o < 43 ∨ 87 < o) (hT : qTW D M) (hG : gth D bn M) (hr : ∀ p, p < D 0 0 → M o p = nI (f p)) :
    ∃ M', f_X1_choose F o 10 (nI l) M = some M' ∧ dRes D bn f l M' ∧ (∀ k j, (k < 43 ∨ 87 < k ∨ 44 ≤ k ∧ k ≤ 73) → M' k j = M k j) := by
  obtain ⟨CN, ST, CD, g1, g2, g3⟩ := lists_of hW hG
  obtain ⟨M', a1, a2, a3, a4, a5⟩ := e1_choose (D := D) (A := aB D bn) (f := f) (n := D 0 0) (l := l) (o := o) hF hW.1.2.1 (fun s hs => (hW.1.2.2.2.2.1 s hs).1) hf hW.1.1 hl ho g1 g2 hr hT.2.1 (fun s hs => (hT.2.2.2.2.2.2 s hs).1)
  refine ⟨M', a1, ⟨a2, a3, fun q s hs => ?_⟩, a5⟩
  have hd := (hW.1.2.2.2.2.1 s hs).1
  obtain ⟨k, b1, b2, b3⟩ := a4 q s hs
  refine ⟨CD (D 9 s) k, ?_, b3⟩
  have := g3 (D 9 s) (by omega) k b1
  rw [b2] at this
  exact this
theorem e8_dressBest (hF : 4000 ≤ F) (hW : qWF D) (hbn : bn < 1024) (hQ : qDR D M) : ∃ M', f_X8_dressBest F (nI bn) M = some M' ∧ dRes D bn (D 4) (D 0 4) M' ∧ (∀ k j, (k < 43 ∨ 87 < k) → M' k j = M k j) := by
  obtain ⟨N, a1, a2, a3⟩ := e1_gather hF hW hbn hQ
  have hQ2 : qDR D N := qDR_fr hW hQ (fun k j q => a3 k j (by omega))
  obtain ⟨M', b1, b2, b3⟩ := e1_dRes (f := D 4) (l := D 0 4) (o := 28) hF hW (fun p hp => (hW.2.2.2.2.2.2.1 p hp).2) hW.2.2.2.1 (by omega) hQ2.1 a2 (fun p hp => (hQ2.2.2.2.2.2.1 p hp).2)
  refine ⟨M', ?_, b2, fun k j hk => by rw [b3 k j (by omega), a3 k j (by omega)]⟩
  unfold f_X8_dressBest
  rw [a1, pn_bs, hQ2.2.2.2.1, b1, pn_bs]
/-- the price of what is worn of the set -/
theorem e1_priceOfWorn (hF : 4000 ≤ F) (hf : ∀ p, p < D 0 0 → f p ≤ 99) (hn : D 0 0 ≤ 10) {o ow : Nat} {W : Nat → Nat} (hW1 : ∀ h, h < 12 → M 86 h = nI (W h) ∧ W h < 2 ^ D 0 0) (hr : ∀ p, p < D 0 0 → M o p = nI (f p)) :
    f_X1_priceOfWorn F (nI ow) o 10 M = some (nI (fb_sm (fun h => sS f (W h &&& ow) (D 0 0)) 12)) := by
  obtain ⟨s, h1, h2⟩ := up_inv (fun q h (s : Int32) => f_X1_priceOfWorn_h5 F (nI ow) o 10 M q s (nI h)) 12 (fun h s => s = nI (fb_sm (fun h => sS f (W h &&& ow) (D 0 0)) h)) (by
    intro q h s hh hs
    refine ⟨_, rfl, ?_⟩
    subst hs
    obtain ⟨w1, w2⟩ := hW1 h hh
    have e1 := e8_sumN (M := M) (o := o) (f := f) (n := D 0 0) (a := W h &&& ow) hF hn (Nat.lt_of_le_of_lt Nat.and_le_left w2) hr
    rw [fb_sm_succ]
    show f_X1_priceOfWorn_h5_b F _ _ _ _ _ _ _ = _
    unfold f_X1_priceOfWorn_h5_b
    simp (disch := omega) only [pn_lt, pn_ltM, pl_ofN, ↓pl_m1, pl_lit, fa_litL, pn_bs, ck_n, ckh_n, ck_t, ckh_t, nI_add, nI_clamp, nI_ltI, nI_leI, nI_eq, m1_eq, m1_eq2, m1_lt, m1_le, m1_lt2, m1_le2, m1_m1, nI_m1, nI_subn, gb_n, Nat.add_zero, Nat.zero_add, Nat.zero_or, Nat.or_zero, nle_f, nle_t, nlt_f, nlt_t, neq_f, neq_t, Bool.false_eq_true, eq_self, if_true, if_false, ite_true, ite_false, and_true, true_and, and_false, false_and, decide_true, decide_false, Bool.and_true, Bool.true_and, Bool.and_false, Bool.false_and, Bool.or_false, Bool.false_or, Bool.or_true, Bool.true_or, Bool.not_true, Bool.not_false, not_true_eq_false, not_false_eq_true, w1, pl_and, e1]) 12 0 (nI 0) F (by omega) (by omega) rfl
  unfold f_X1_priceOfWorn
  refine h2.trans ?_
  obtain ⟨n', en⟩ : ∃ n', F - 12 = n' + 1 := ⟨F - 13, by omega⟩
  rw [en, h1]
  show f_X1_priceOfWorn_h5_b F _ _ _ _ _ _ _ = _
  unfold f_X1_priceOfWorn_h5_b
  simp (disch := omega) only [pn_lt, pn_ltM, pl_ofN, ↓pl_m1, pl_lit, fa_litL, pn_bs, ck_n, ckh_n, ck_t, ckh_t, nI_add, nI_clamp, nI_ltI, nI_leI, nI_eq, m1_eq, m1_eq2, m1_lt, m1_le, m1_lt2, m1_le2, m1_m1, nI_m1, nI_subn, gb_n, Nat.add_zero, Nat.zero_add, Nat.zero_or, Nat.or_zero, nle_f, nle_t, nlt_f, nlt_t, neq_f, neq_t, Bool.false_eq_true, eq_self, if_true, if_false, ite_true, ite_false, and_true, true_and, and_false, false_and, decide_true, decide_false, Bool.and_true, Bool.true_and, Bool.and_false, Bool.false_and, Bool.or_false, Bool.false_or, Bool.or_true, Bool.true_or, Bool.not_true, Bool.not_false, not_true_eq_false, not_false_eq_true]
end EV
/-! the call dressing -/
theorem pRow_of {D : Nat → Nat → Nat} {M : gM} (hT : qTW D M) (hS : qS9 (D 0 0) D M) : pRow D (D 4) (D 0 4) 0 M := ⟨fun p hp => by
    rw [Nat.zero_add]
    exact (hS.2.2.2 p hp).2.1, by rw [Nat.zero_add]; exact hS.2.1, hT⟩
section EV
variable {F : Nat} {M : gM}
theorem q_dressing (hF : 4000 ≤ F) (a : Int32) (h : qR M) : eqW (f_X8_dressing F a M) (f_X9_dressing F a) := by
  obtain ⟨D, hW, hC⟩ := id h
  obtain ⟨hT, hS, hX, hL, hG, hB, hFI, hb⟩ := id hC
  have hs8 := hW.1.2.1
  have hpr : ∀ p, p < D 0 0 → D 4 p ≤ 99 := fun p hp => (hW.2.2.2.2.2.2.1 p hp).2
  obtain ⟨C, c1, ⟨c2, c3, c4⟩, c5⟩ := e8_dressBest (bn := 0) hF hW (by omega) ⟨hT, hL, qS_8 hS⟩
  have hCR : qRC D C := qRC_fr hC hW.1.1 hs8 (fun k i q => c5 k i (by unfold qrel at q; omega))
  obtain ⟨hT1, hS1, hX1, hL1, hG1, hB1, hFI1, hb1⟩ := id hCR
  have hQ1 : qMR D 0 C := ⟨hT1, hL1, qS_9 hS1, hb1⟩
  obtain ⟨N, n1, n2, n3, n4⟩ := e9_leastIn hF hW (bn := 0) (by omega) hQ1
  have hRN : qR N := ⟨D, hW, qRC_fr hCR hW.1.1 hs8 (fun k i q => n4 k i (by unfold qrel at q; omega))⟩
  have hQ2 : qMR D 0 N := qMR_fr hW hQ1 (fun k j q => n4 k j (by omega))
  have htf := tP_fin (bn := 0) (f := D 4) (l := D 0 4) hW hpr
  have c1' : f_X8_dressBest F (nI 0) M = some C := c1
  unfold eqW f_X8_dressing f_X9_dressing
  by_cases z : tP D 0 (D 4) (D 0 4) = 1000000
  · -- there is none
    rw [if_pos z] at c2
    have n1' : f_X9_leastIn F (nI 0) C = some (m1, N) := by
      rw [n1, if_neg (show ¬ lcm (aB D 0) (D 4) (D 0 0) (D 0 4) 12 0 < 1000000 by have e : lcm (aB D 0) (D 4) (D 0 0) (D 0 4) 12 0 = 1000000 := z; omega)]
    have r8 : ∀ x : Int32, f_X8_dressing_b19 F x M = some (m1, C) := fun x => by
      unfold f_X8_dressing_b19
      rw [show (0 : Int32) = nI 0 from rfl, c1', pn_bs, c2]
      by_cases q : x = -1
      · rw [if_pos q]
      · rw [if_neg q, if_pos (show m1 = -1 from rfl)]
    have r9 : ∀ x : Int32, f_X9_dressing_b16 F x C = some (m1, N) := fun x => by
      unfold f_X9_dressing_b16
      rw [show (0 : Int32) = nI 0 from rfl, n1', pn_bs, pn_lt]
      dsimp only
      rw [if_pos (show m1 < nI 0 by decide +kernel)]
    by_cases q : a = -1
    · exact ⟨m1, C, N, by rw [if_pos q, r8], by rw [if_pos q, r9], hRN⟩
    · rcases e_scene hT hs8 a with ⟨s, hs, rfl, e1, e2⟩ | ⟨e1, e2⟩
      · obtain ⟨-, e3⟩ : True ∧ f_X9_isScene (nI s) C = some (nI 1) := by
          rcases e_scene hT1 hs8 (nI s) with ⟨s', hs', e, e3, e4⟩ | ⟨e3, e4⟩
          · exact ⟨trivial, e4⟩
          · exfalso
            have e5 : f_X9_isScene (nI s) C = f_X9_isScene (nI s) M := by
              unfold f_X9_isScene
              rw [show (1 : Int32).toNatClampNeg = 1 from rfl, hT1.2.2.2.2.1, hT.2.2.2.2.1]
              rfl
            rw [e4, e2] at e5
            have := Option.some.inj e5
            exact absurd this (by decide)
        refine ⟨m1, C, N, ?_, ?_, hRN⟩
        · rw [if_neg q, e1, pn_bs, if_neg (by decide), r8]
        · rw [if_neg q, e3, pn_bs, if_neg (by decide), r9]
      · refine ⟨-nI 1000000001, M, M, ?_, ?_, h⟩
        · rw [if_neg q, e1, pn_bs, if_pos (by decide)]
          rfl
        · rw [if_neg q, e2, pn_bs, if_pos (by decide)]
          rfl
  · have hlt : tP D 0 (D 4) (D 0 4) < 1000000 := by omega
    rw [if_neg z] at c2
    have n1' : f_X9_leastIn F (nI 0) C = some (nI (tP D 0 (D 4) (D 0 4)), N) := by
      rw [n1, if_pos (show lcm (aB D 0) (D 4) (D 0 0) (D 0 4) 12 0 < 1000000 from hlt)]
      rfl
    by_cases q : a = -1
    · refine ⟨nI (tP D 0 (D 4) (D 0 4)), C, N, ?_, ?_, hRN⟩
      · rw [if_pos q]
        unfold f_X8_dressing_b19
        rw [show (0 : Int32) = nI 0 from rfl, c1', pn_bs, c2, if_pos q]
      · rw [if_pos q]
        unfold f_X9_dressing_b16
        rw [show (0 : Int32) = nI 0 from rfl, n1', pn_bs, pn_lt]
        dsimp only
        rw [if_neg (show ¬ nI (tP D 0 (D 4) (D 0 4)) < nI 0 by rw [nI_ltI (by omega) (by omega)]; omega), if_neg (by rw [q]; decide +kernel)]
    · rcases e_scene hT hs8 a with ⟨s, hs, rfl, e1, e2⟩ | ⟨e1, e2⟩
      · have e3 : f_X9_isScene (nI s) C = some (nI 1) := by
          rw [← e2]
          unfold f_X9_isScene
          rw [show (1 : Int32).toNatClampNeg = 1 from rfl, hT1.2.2.2.2.1, hT.2.2.2.2.1]
          rfl
        have hd := (hW.1.2.2.2.2.1 s hs).1
        obtain ⟨c, m1', m2⟩ := c4 hlt s hs
        obtain ⟨N2, w1, w2, w3⟩ := e9_findWorn hF hW (pRow_of hQ2.1 hQ2.2.2.1) n2 hpr hW.2.2.2.1 (by omega) n3 hlt
        have hQ3 : qMR D 0 N2 := qMR_fr hW hQ2 (fun k j q => by rw [w3 _ (by omega)])
        obtain ⟨N3, x1, x2, x3⟩ := e9_lookOf (bn := 0) (a := wO D 0 (D 4) (D 0 4) (D 9 s)) hF hW rfl hQ3 hs (wO_ok hW hlt (by omega)).1 (w2 (D 9 s) (by omega)) m1'
        have hRN3 : qR N3 := qR_fr hRN (fun k i q => by
          unfold qrel at q
          rw [x3 _ _ (by omega) (by omega), w3 _ (by omega)])
        have hL1' := hL1
        generalize c / 64 ^ hk D (D 9 s) (s + 1) (D 0 1 - (s + 1)) % 64 = i at *
        have e5 := e2_partsOf hW hL1' x2
        refine ⟨nI (qmk D i), C, N3, ?_, ?_, hRN3⟩
        · rw [if_neg q, e1, pn_bs, if_neg (by decide)]
          unfold f_X8_dressing_b19
          rw [show (0 : Int32) = nI 0 from rfl, c1', pn_bs, c2, if_neg q, if_neg (nI_ne_m1 (by omega)), ck_n _ (by omega) (by omega), nI_clamp (by omega), m2, e5, pn_bs]
        · rw [if_neg q, e3, pn_bs, if_neg (by decide)]
          unfold f_X9_dressing_b16
          rw [show (0 : Int32) = nI 0 from rfl, n1', pn_bs, pn_lt]
          dsimp only
          rw [if_neg (show ¬ nI (tP D 0 (D 4) (D 0 4)) < nI 0 by rw [nI_ltI (by omega) (by omega)]; omega), if_pos (by rw [nI_leI (by omega) (by omega)]; omega), w1, pn_bs, x1, pn_bs]
      · refine ⟨-nI 1000000001, M, M, ?_, ?_, h⟩
        · rw [if_neg q, e1, pn_bs, if_pos (by decide)]
          rfl
        · rw [if_neg q, e2, pn_bs, if_pos (by decide)]
          rfl
end EV
