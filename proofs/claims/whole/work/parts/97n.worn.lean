/-! the model: what is worn -/
section EV
variable {F : Nat} {D : Nat → Nat → Nat} {M : gM} {A : Nat → Nat → Bool} {f : Nat → Nat} {l x : Nat}
theorem fa_below {p : Nat → Bool} {n a : Nat} (h : a < fa_first p n) : p a = false := fa_first_no p n a h
theorem e9_findWorn (hF : 4000 ≤ F) (hW : qWF D) (hP : pRow D f l x M) (hA : aRow A M) (hf : ∀ p, p < D 0 0 → f p ≤ 99) (hl : l ≤ 1) (hx : x ≤ 40) (hR : ∀ h, h ≤ 12 → lRow A f (D 0 0) l M h) (hlt : lcm A f (D 0 0) l 12 0 < 1000000) :
    ∃ M', f_X9_findWorn F (nI x) M = some M' ∧ (∀ h, h < 12 → M' 115 h = nI (wrN A f (D 0 0) l (h + 1))) ∧ (∀ k, k ≠ 115 → M' k = M k) := by
  have hn := hW.1.1
  have hPf : ∀ N : gM, (∀ k, k ≠ 115 → N k = M k) → pRow D f l x N ∧ aRow A N ∧ ∀ h, h ≤ 12 → lRow A f (D 0 0) l N h := fun N hN =>
    ⟨⟨fun p hp => by rw [hN _ (by omega)]; exact hP.1 p hp, by rw [hN _ (by omega)]; exact hP.2.1, qTW_fr hP.2.2 hW.1.1 hW.1.2.1 (fun k j q => by rw [hN k (by omega)])⟩, fun h hh a ha => by rw [hN _ (by omega)]; exact hA h hh a ha, fun h hh => ⟨by rw [hN _ (by omega)]; exact (hR h hh).1, fun q a ha q2 => by rw [hN _ (by omega)]; exact (hR h hh).2 q a ha q2⟩⟩
  have one1 : ∀ N : gM, f_X9_one (nI 1) N = some (nI 1) := fun N => by
    unfold f_X9_one
    rw [if_neg (by decide)]
    rfl
  have one0 : ∀ N : gM, f_X9_one (nI 0) N = some (nI 0) := fun N => by
    unfold f_X9_one
    rw [if_pos (by decide)]
    rfl
  -- what was worn ahead
  have hah : ∀ h, h < 12 → wrN A f (D 0 0) l h < 1024 := fun h hh => by
    cases h with
    | zero => show 0 < 1024; omega
    | succ h => exact (wr_P hlt (show h < 12 by omega)).1
  have hrow : ∀ (N : gM), (∀ h, h ≤ 12 → lRow A f (D 0 0) l N h) → ∀ h, h < 12 → N 112 (1024 * h + (if l = 0 then 0 else wrN A f (D 0 0) l h)) = nI (lcm A f (D 0 0) l (12 - h) (wrN A f (D 0 0) l h)) := by
    intro N hN h hh
    by_cases z : l = 0
    · rw [if_pos z, Nat.add_zero, (hN h (by omega)).1, lcm_0 z]
    · rw [if_neg z]
      cases h with
      | zero =>
        show N 112 (1024 * 0 + 0) = nI (lcm A f (D 0 0) l (12 - 0) 0)
        exact (hN 0 (by omega)).1
      | succ h => exact (hN (h + 1) (by omega)).2 (by omega) _ (hah (h + 1) hh) (.inr ⟨by omega, by rw [Nat.add_sub_cancel]; exact (wr_P hlt (show h < 12 by omega)).2.1⟩)
  -- one set
  have step : ∀ (h a : Nat) (k4 : Int32 → Int32 → gM → Option gM) (k16 : Int32 → Int32 → Int32 → Int32 → gM → Option gM) (N : gM), h < 12 → a < 1024 → (∀ k, k ≠ 115 → N k = M k) →
      f_X9_findWorn_h16_b F (nI x) k4 k16 (nI (if l = 0 then 0 else wrN A f (D 0 0) l h)) (nI h) (nI a) (nI 0) N = if fsP A f (D 0 0) l h (wrN A f (D 0 0) l h) a then k16 (nI (if l = 0 then 0 else wrN A f (D 0 0) l h)) (nI h) (nI a) (nI 1) N else k16 (nI (if l = 0 then 0 else wrN A f (D 0 0) l h)) (nI h) (nI (a + 1)) (nI 0) N := by
    intro h a k4 k16 N hh ha hN
    obtain ⟨⟨p1, p2, p3⟩, qa, qr⟩ := hPf N hN
    have v1 := qa h hh a ha
    have v3 := hrow N qr h hh
    have e1 : nI 1024 * nI h = nI (1024 * h) := pk_mul _ _
    have e2 : nI 1024 * nI (h + 1) = nI (1024 * (h + 1)) := pk_mul _ _
    have e3 := e9_sumOf (x := x + 10) (a := a) hF hW p3 ha (by omega) p1
    have hw := hah h hh
    have b2 := lcm_le (A := A) (f := f) (n := D 0 0) (l := l) (11 - h) a
    have b1 := lcm_le (A := A) (f := f) (n := D 0 0) (l := l) (12 - h) (wrN A f (D 0 0) l h)
    have b3 : sS f a (D 0 0) ≤ 990 := by
      have := sS_le (a := a) hf
      omega
    unfold f_X9_findWorn_h16_b f_X9_findWorn_b39 f_X9_findWorn_b76 f_X9_findWorn_b121 f_X9_findWorn_b122 fsP
    cases c : A h a
    · rw [c] at v1
      by_cases z : l = 0
      · subst z
        simp (disch := omega) only [pn_lt, pn_ltM, pl_ofN, ↓pl_m1, pl_lit, fa_litL, pn_bs, ck_n, ckh_n, ck_t, ckh_t, nI_add, nI_clamp, nI_ltI, nI_leI, nI_eq, m1_eq, m1_eq2, m1_lt, m1_le, m1_lt2, m1_le2, m1_m1, nI_m1, nI_subn, gb_n, Nat.add_zero, Nat.zero_add, Nat.zero_or, Nat.or_zero, nle_f, nle_t, nlt_f, nlt_t, neq_f, neq_t, Bool.false_eq_true, eq_self, if_true, if_false, ite_true, ite_false, and_true, true_and, and_false, false_and, decide_true, decide_false, Bool.and_true, Bool.true_and, Bool.and_false, Bool.false_and, Bool.or_false, Bool.false_or, Bool.or_true, Bool.true_or, Bool.not_true, Bool.not_false, not_true_eq_false, not_false_eq_true, p2, e1, v1, one1]
      · simp (disch := omega) only [pn_lt, pn_ltM, pl_ofN, ↓pl_m1, pl_lit, fa_litL, pn_bs, ck_n, ckh_n, ck_t, ckh_t, nI_add, nI_clamp, nI_ltI, nI_leI, nI_eq, m1_eq, m1_eq2, m1_lt, m1_le, m1_lt2, m1_le2, m1_m1, nI_m1, nI_subn, gb_n, Nat.add_zero, Nat.zero_add, Nat.zero_or, Nat.or_zero, nle_f, nle_t, nlt_f, nlt_t, neq_f, neq_t, Bool.false_eq_true, eq_self, if_true, if_false, ite_true, ite_false, and_true, true_and, and_false, false_and, decide_true, decide_false, Bool.and_true, Bool.true_and, Bool.and_false, Bool.false_and, Bool.or_false, Bool.false_or, Bool.or_true, Bool.true_or, Bool.not_true, Bool.not_false, not_true_eq_false, not_false_eq_true, p2, e1, v1, one1, z]
    · rw [c] at v1
      have v2 := lRow_next hh hl (qr (h + 1) (by omega)) ha c
      generalize lcm A f (D 0 0) l (11 - h) a = C at *
      generalize lcm A f (D 0 0) l (12 - h) (wrN A f (D 0 0) l h) = B at *
      generalize sS f a (D 0 0) = G at *
      generalize wrN A f (D 0 0) l h = w at *
      by_cases z : l = 0
      · subst z
        rw [if_pos rfl, Nat.add_zero] at v2 v3
        have z1 : okB 0 a w = true := rfl
        rw [z1]
        by_cases z2 : G + C = B
        · simp (disch := omega) only [pn_lt, pn_ltM, pl_ofN, ↓pl_m1, pl_lit, fa_litL, pn_bs, ck_n, ckh_n, ck_t, ckh_t, nI_add, nI_clamp, nI_ltI, nI_leI, nI_eq, m1_eq, m1_eq2, m1_lt, m1_le, m1_lt2, m1_le2, m1_m1, nI_m1, nI_subn, gb_n, Nat.add_zero, Nat.zero_add, Nat.zero_or, Nat.or_zero, nle_f, nle_t, nlt_f, nlt_t, neq_f, neq_t, Bool.false_eq_true, eq_self, if_true, if_false, ite_true, ite_false, and_true, true_and, and_false, false_and, decide_true, decide_false, Bool.and_true, Bool.true_and, Bool.and_false, Bool.false_and, Bool.or_false, Bool.false_or, Bool.or_true, Bool.true_or, Bool.not_true, Bool.not_false, not_true_eq_false, not_false_eq_true, p2, e1, e2, v1, v2, v3, e3, one1, one0, z2]
        · simp (disch := omega) only [pn_lt, pn_ltM, pl_ofN, ↓pl_m1, pl_lit, fa_litL, pn_bs, ck_n, ckh_n, ck_t, ckh_t, nI_add, nI_clamp, nI_ltI, nI_leI, nI_eq, m1_eq, m1_eq2, m1_lt, m1_le, m1_lt2, m1_le2, m1_m1, nI_m1, nI_subn, gb_n, Nat.add_zero, Nat.zero_add, Nat.zero_or, Nat.or_zero, nle_f, nle_t, nlt_f, nlt_t, neq_f, neq_t, Bool.false_eq_true, eq_self, if_true, if_false, ite_true, ite_false, and_true, true_and, and_false, false_and, decide_true, decide_false, Bool.and_true, Bool.true_and, Bool.and_false, Bool.false_and, Bool.or_false, Bool.false_or, Bool.or_true, Bool.true_or, Bool.not_true, Bool.not_false, not_true_eq_false, not_false_eq_true, p2, e1, e2, v1, v2, v3, e3, one1, one0, z2]
      · rw [if_neg z] at v2 v3
        rw [if_neg z]
        have b4 : a &&& w < 1024 := Nat.lt_of_le_of_lt Nat.and_le_left ha
        by_cases z3 : a &&& w = 0
        · have z1 : okB l a w = true := by unfold okB; rw [decide_eq_true z3, Bool.or_true]
          rw [z1]
          by_cases z2 : G + C = B
          · simp (disch := omega) only [pn_lt, pn_ltM, pl_ofN, ↓pl_m1, pl_lit, fa_litL, pn_bs, ck_n, ckh_n, ck_t, ckh_t, nI_add, nI_clamp, nI_ltI, nI_leI, nI_eq, m1_eq, m1_eq2, m1_lt, m1_le, m1_lt2, m1_le2, m1_m1, nI_m1, nI_subn, gb_n, Nat.add_zero, Nat.zero_add, Nat.zero_or, Nat.or_zero, nle_f, nle_t, nlt_f, nlt_t, neq_f, neq_t, Bool.false_eq_true, eq_self, if_true, if_false, ite_true, ite_false, and_true, true_and, and_false, false_and, decide_true, decide_false, Bool.and_true, Bool.true_and, Bool.and_false, Bool.false_and, Bool.or_false, Bool.false_or, Bool.or_true, Bool.true_or, Bool.not_true, Bool.not_false, not_true_eq_false, not_false_eq_true, p2, e1, e2, v1, v2, v3, e3, one1, one0, z2, z, pl_and, z3]
          · simp (disch := omega) only [pn_lt, pn_ltM, pl_ofN, ↓pl_m1, pl_lit, fa_litL, pn_bs, ck_n, ckh_n, ck_t, ckh_t, nI_add, nI_clamp, nI_ltI, nI_leI, nI_eq, m1_eq, m1_eq2, m1_lt, m1_le, m1_lt2, m1_le2, m1_m1, nI_m1, nI_subn, gb_n, Nat.add_zero, Nat.zero_add, Nat.zero_or, Nat.or_zero, nle_f, nle_t, nlt_f, nlt_t, neq_f, neq_t, Bool.false_eq_true, eq_self, if_true, if_false, ite_true, ite_false, and_true, true_and, and_false, false_and, decide_true, decide_false, Bool.and_true, Bool.true_and, Bool.and_false, Bool.false_and, Bool.or_false, Bool.false_or, Bool.or_true, Bool.true_or, Bool.not_true, Bool.not_false, not_true_eq_false, not_false_eq_true, p2, e1, e2, v1, v2, v3, e3, one1, one0, z2, z, pl_and, z3]
        · have z1 : okB l a w = false := by unfold okB; rw [decide_eq_false z3, decide_eq_false z]; rfl
          rw [z1]
          simp (disch := omega) only [pn_lt, pn_ltM, pl_ofN, ↓pl_m1, pl_lit, fa_litL, pn_bs, ck_n, ckh_n, ck_t, ckh_t, nI_add, nI_clamp, nI_ltI, nI_leI, nI_eq, m1_eq, m1_eq2, m1_lt, m1_le, m1_lt2, m1_le2, m1_m1, nI_m1, nI_subn, gb_n, Nat.add_zero, Nat.zero_add, Nat.zero_or, Nat.or_zero, nle_f, nle_t, nlt_f, nlt_t, neq_f, neq_t, Bool.false_eq_true, eq_self, if_true, if_false, ite_true, ite_false, and_true, true_and, and_false, false_and, decide_true, decide_false, Bool.and_true, Bool.true_and, Bool.and_false, Bool.false_and, Bool.or_false, Bool.false_or, Bool.or_true, Bool.true_or, Bool.not_true, Bool.not_false, not_true_eq_false, not_false_eq_true, p2, e1, e2, v1, one1, z, pl_and, z3]
  obtain ⟨⟨y, N1⟩, ⟨a1, a2, a3⟩, a4⟩ := up_inv (fun q h (s : Int32 × gM) => f_X9_findWorn_h4 F (nI x) q s.1 (nI h) s.2) 12 (fun h s => s.1 = nI (if l = 0 then 0 else wrN A f (D 0 0) l h) ∧ (∀ h', h' < h → s.2 115 h' = nI (wrN A f (D 0 0) l (h' + 1))) ∧ (∀ k, k ≠ 115 → s.2 k = M k)) (by
    rintro q h ⟨y, N⟩ hh ⟨u1, u2, u3⟩
    dsimp only at u1 u2 u3
    subst u1
    obtain ⟨g1, g2, g3⟩ := wr_P hlt hh
    have g4 : ∀ a, a < wrN A f (D 0 0) l (h + 1) → fsP A f (D 0 0) l h (wrN A f (D 0 0) l h) a = false := fun a ha => fa_below (n := 1024) ha
    obtain ⟨u, -, r1⟩ := up_inv (fun q a (_ : Unit) => f_X9_findWorn_h16 F (nI x) (f_X9_findWorn_h4 F (nI x) (q * 0 + 0)) q (nI 0) (nI h) (nI a) (nI 0) N) 0 (fun _ _ => True) (fun _ _ _ hi _ => absurd hi (Nat.not_lt_zero _)) 0 0 () F (by omega) (by omega) trivial
    clear r1 u
    obtain ⟨u, -, r1⟩ := up_inv (fun q' a (_ : Unit) => f_X9_findWorn_h16 F (nI x) (f_X9_findWorn_h4 F (nI x) q) q' (nI (if l = 0 then 0 else wrN A f (D 0 0) l h)) (nI h) (nI a) (nI 0) N) (wrN A f (D 0 0) l (h + 1)) (fun _ _ => True) (by
      intro q' a _ ha _
      refine ⟨(), trivial, ?_⟩
      refine (step h a (f_X9_findWorn_h4 F (nI x) q) (f_X9_findWorn_h16 F (nI x) (f_X9_findWorn_h4 F (nI x) q) q') N hh (by omega) u3).trans ?_
      rw [g4 a ha]
      rfl) (wrN A f (D 0 0) l (h + 1)) 0 () F (by omega) (by omega) trivial
    obtain ⟨n', en⟩ : ∃ n', F - wrN A f (D 0 0) l (h + 1) = n' + 1 + 1 := ⟨F - wrN A f (D 0 0) l (h + 1) - 2, by omega⟩
    rw [en] at r1
    have r2 := step h (wrN A f (D 0 0) l (h + 1)) (f_X9_findWorn_h4 F (nI x) q) (f_X9_findWorn_h16 F (nI x) (f_X9_findWorn_h4 F (nI x) q) (n' + 1)) N hh g1 u3
    rw [g3, if_pos rfl] at r2
    refine ⟨(nI (if l = 0 then 0 else wrN A f (D 0 0) l (h + 1)), gst N 115 h (nI (wrN A f (D 0 0) l (h + 1)))), ⟨rfl, fun h' hh' => ?_, fun k hk => ?_⟩, ?_⟩
    · show gst N 115 h _ 115 h' = _
      rw [gst_v]
      by_cases e : h' = h
      · rw [if_pos ⟨rfl, e⟩, e]
      · rw [if_neg (fun z => e z.2)]
        exact u2 h' (by omega)
    · show gst N 115 h _ k = _
      rw [gst_ne _ _ _ _ hk, u3 k hk]
    · show f_X9_findWorn_h4_b F (nI x) (f_X9_findWorn_h4 F (nI x) q) (nI (if l = 0 then 0 else wrN A f (D 0 0) l h)) (nI h) N = f_X9_findWorn_h4 F (nI x) q (nI (if l = 0 then 0 else wrN A f (D 0 0) l (h + 1))) (nI (h + 1)) (gst N 115 h (nI (wrN A f (D 0 0) l (h + 1))))
      unfold f_X9_findWorn_h4_b
      rw [if_neg (by rw [show (12 : Int32) = nI 12 from rfl, nI_leI (by omega) (by omega)]; omega)]
      refine r1.trans (Eq.trans r2 ?_)
      show f_X9_findWorn_h16_b F _ _ _ _ _ _ _ _ = _
      unfold f_X9_findWorn_h16_b
      have p2 := (hPf N u3).1.2.1
      by_cases z : l = 0
      · subst z
        simp (disch := omega) only [pn_lt, pn_ltM, pl_ofN, ↓pl_m1, pl_lit, fa_litL, pn_bs, ck_n, ckh_n, ck_t, ckh_t, nI_add, nI_clamp, nI_ltI, nI_leI, nI_eq, m1_eq, m1_eq2, m1_lt, m1_le, m1_lt2, m1_le2, m1_m1, nI_m1, nI_subn, gb_n, Nat.add_zero, Nat.zero_add, Nat.zero_or, Nat.or_zero, nle_f, nle_t, nlt_f, nlt_t, neq_f, neq_t, Bool.false_eq_true, eq_self, if_true, if_false, ite_true, ite_false, and_true, true_and, and_false, false_and, decide_true, decide_false, Bool.and_true, Bool.true_and, Bool.and_false, Bool.false_and, Bool.or_false, Bool.false_or, Bool.or_true, Bool.true_or, Bool.not_true, Bool.not_false, not_true_eq_false, not_false_eq_true, gst_v, p2]
      · simp (disch := omega) only [pn_lt, pn_ltM, pl_ofN, ↓pl_m1, pl_lit, fa_litL, pn_bs, ck_n, ckh_n, ck_t, ckh_t, nI_add, nI_clamp, nI_ltI, nI_leI, nI_eq, m1_eq, m1_eq2, m1_lt, m1_le, m1_lt2, m1_le2, m1_m1, nI_m1, nI_subn, gb_n, Nat.add_zero, Nat.zero_add, Nat.zero_or, Nat.or_zero, nle_f, nle_t, nlt_f, nlt_t, neq_f, neq_t, Bool.false_eq_true, eq_self, if_true, if_false, ite_true, ite_false, and_true, true_and, and_false, false_and, decide_true, decide_false, Bool.and_true, Bool.true_and, Bool.and_false, Bool.false_and, Bool.or_false, Bool.false_or, Bool.or_true, Bool.true_or, Bool.not_true, Bool.not_false, not_true_eq_false, not_false_eq_true, gst_v, p2, z]) 12 0 (nI 0, M) F (by omega) (by omega) ⟨by
        show nI 0 = nI (if l = 0 then 0 else 0)
        rw [ite_self], fun h' hh' => absurd hh' (Nat.not_lt_zero _), fun _ _ => rfl⟩
  refine ⟨N1, ?_, a2, a3⟩
  unfold f_X9_findWorn
  refine a4.trans ?_
  obtain ⟨n', en⟩ : ∃ n', F - 12 = n' + 1 := ⟨F - 13, by omega⟩
  rw [en]
  show f_X9_findWorn_h4_b F _ _ _ _ _ = _
  unfold f_X9_findWorn_h4_b
  simp (disch := omega) only [pn_lt, pn_ltM, pl_ofN, ↓pl_m1, pl_lit, fa_litL, pn_bs, ck_n, ckh_n, ck_t, ckh_t, nI_add, nI_clamp, nI_ltI, nI_leI, nI_eq, m1_eq, m1_eq2, m1_lt, m1_le, m1_lt2, m1_le2, m1_m1, nI_m1, nI_subn, gb_n, Nat.add_zero, Nat.zero_add, Nat.zero_or, Nat.or_zero, nle_f, nle_t, nlt_f, nlt_t, neq_f, neq_t, Bool.false_eq_true, eq_self, if_true, if_false, ite_true, ite_false, and_true, true_and, and_false, false_and, decide_true, decide_false, Bool.and_true, Bool.true_and, Bool.and_false, Bool.false_and, Bool.or_false, Bool.false_or, Bool.or_true, Bool.true_or, Bool.not_true, Bool.not_false, not_true_eq_false, not_false_eq_true]
theorem e9_leastIn (hF : 4000 ≤ F) (hW : qWF D) {bn : Nat} (hbn : bn < 1024) (hQ : qMR D bn M) : ∃ M', f_X9_leastIn F (nI 0) M = some (if lcm (aB D bn) (D 4) (D 0 0) (D 0 4) 12 0 < 1000000 then nI (lcm (aB D bn) (D 4) (D 0 0) (D 0 4) 12 0) else m1, M') ∧
    aRow (aB D bn) M' ∧ (∀ h, h ≤ 12 → lRow (aB D bn) (D 4) (D 0 0) (D 0 4) M' h) ∧ (∀ k j, (k < 111 ∨ 114 < k) → M' k j = M k j) := by
  obtain ⟨N1, a1, a2, a3⟩ := e9_findAllSets hF hW hbn hQ
  have hq1 : qMR D bn N1 := qMR_fr hW hQ (fun k j q => a3 k j (by omega) (by omega) (by omega))
  have hS := hq1.2.2.1
  have hpr : ∀ p, p < D 0 0 → D 4 p ≤ 99 := fun p hp => (hW.2.2.2.2.2.2.1 p hp).2
  have hlaw : D 0 4 ≤ 1 := hW.2.2.2.1
  have hP : pRow D (D 4) (D 0 4) 0 N1 := ⟨fun p hp => by
    rw [Nat.zero_add]
    exact (hS.2.2.2 p hp).2.1, by rw [Nat.zero_add]; exact hS.2.1, hq1.1⟩
  obtain ⟨N2, b1, b2, b3⟩ := e9_findLeast hF hW hP (aRow_of a2) hpr hlaw (by omega)
  have b4 := (b2 0 (by omega)).1
  have b5 := lcm_le (A := aB D bn) (f := D 4) (n := D 0 0) (l := D 0 4) 12 0
  refine ⟨N2, ?_, fun h hh a ha => by rw [b3 _ (by omega)]; exact aRow_of a2 h hh a ha, b2, fun k j hk => by rw [b3 _ (by omega), a3 k j (by omega) (by omega) (by omega)]⟩
  have b4' : N2 112 0 = nI (lcm (aB D bn) (D 4) (D 0 0) (D 0 4) 12 0) := b4
  generalize lcm (aB D bn) (D 4) (D 0 0) (D 0 4) 12 0 = C at *
  unfold f_X9_leastIn
  by_cases z : C < 1000000
  · simp (disch := omega) only [pn_lt, pn_ltM, pl_ofN, ↓pl_m1, pl_lit, fa_litL, pn_bs, ck_n, ckh_n, ck_t, ckh_t, nI_add, nI_clamp, nI_ltI, nI_leI, nI_eq, m1_eq, m1_eq2, m1_lt, m1_le, m1_lt2, m1_le2, m1_m1, nI_m1, nI_subn, gb_n, Nat.add_zero, Nat.zero_add, Nat.zero_or, Nat.or_zero, nle_f, nle_t, nlt_f, nlt_t, neq_f, neq_t, Bool.false_eq_true, eq_self, if_true, if_false, ite_true, ite_false, and_true, true_and, and_false, false_and, decide_true, decide_false, Bool.and_true, Bool.true_and, Bool.and_false, Bool.false_and, Bool.or_false, Bool.false_or, Bool.or_true, Bool.true_or, Bool.not_true, Bool.not_false, not_true_eq_false, not_false_eq_true, a1, b1, b4', z]
  · simp (disch := omega) only [pn_lt, pn_ltM, pl_ofN, ↓pl_m1, pl_lit, fa_litL, pn_bs, ck_n, ckh_n, ck_t, ckh_t, nI_add, nI_clamp, nI_ltI, nI_leI, nI_eq, m1_eq, m1_eq2, m1_lt, m1_le, m1_lt2, m1_le2, m1_m1, nI_m1, nI_subn, gb_n, Nat.add_zero, Nat.zero_add, Nat.zero_or, Nat.or_zero, nle_f, nle_t, nlt_f, nlt_t, neq_f, neq_t, Bool.false_eq_true, eq_self, if_true, if_false, ite_true, ite_false, and_true, true_and, and_false, false_and, decide_true, decide_false, Bool.and_true, Bool.true_and, Bool.and_false, Bool.false_and, Bool.or_false, Bool.false_or, Bool.or_true, Bool.true_or, Bool.not_true, Bool.not_false, not_true_eq_false, not_false_eq_true, a1, b1, b4', z]
end EV
