/-! town: what follows the reading, at the class -/
section EV
variable {E : Nat → Nat → Nat} {F : Nat} {M A : gM}
theorem e7_copy (hF : 4000 ≤ F) (M : gM) : ∃ M', f_X7_copyFrom F 3 14 M = some M' ∧ (∀ k, (k < 3 ∨ 13 < k) → M' k = M k) ∧
    (∀ j, j < 10 → M' 4 j = M 15 j ∧ M' 5 j = M 16 j ∧ M' 6 j = M 17 j ∧ M' 7 j = M 18 j ∧ M' 8 j = M 19 j ∧ M' 9 j = M 20 j ∧ M' 10 j = M 21 j) ∧
    (∀ j, j < 8 → M' 11 j = M 22 j ∧ M' 12 j = M 23 j ∧ M' 13 j = M 24 j) ∧ M' 3 10 = M 14 10 ∧ M' 3 11 = M 14 11 ∧ M' 3 12 = M 14 12 := by
  obtain ⟨N1, e1, f1, g1⟩ := e8_copy (a := 15) (b := 4) (c := 10) hF (by omega) (by omega) M
  obtain ⟨N2, e2, f2, g2⟩ := e8_copy (a := 16) (b := 5) (c := 10) hF (by omega) (by omega) N1
  obtain ⟨N3, e3, f3, g3⟩ := e8_copy (a := 17) (b := 6) (c := 10) hF (by omega) (by omega) N2
  obtain ⟨N4, e4, f4, g4⟩ := e8_copy (a := 18) (b := 7) (c := 10) hF (by omega) (by omega) N3
  obtain ⟨N5, e5, f5, g5⟩ := e8_copy (a := 19) (b := 8) (c := 10) hF (by omega) (by omega) N4
  obtain ⟨N6, e6, f6, g6⟩ := e8_copy (a := 20) (b := 9) (c := 10) hF (by omega) (by omega) N5
  obtain ⟨N7, e7, f7, g7⟩ := e8_copy (a := 21) (b := 10) (c := 10) hF (by omega) (by omega) N6
  obtain ⟨N8, e8, f8, g8⟩ := e8_copy (a := 22) (b := 11) (c := 8) hF (by omega) (by omega) N7
  obtain ⟨N9, e9, f9, g9⟩ := e8_copy (a := 23) (b := 12) (c := 8) hF (by omega) (by omega) N8
  obtain ⟨N10, e10, f10, g10⟩ := e8_copy (a := 24) (b := 13) (c := 8) hF (by omega) (by omega) N9
  have hrun : f_X7_copyFrom F 3 14 M = some (gst (gst (gst N10 3 10 (N10 14 10)) 3 11 (N10 14 11)) 3 12 (N10 14 12)) := by
    unfold f_X7_copyFrom
    show (f_X8_copyRow F 15 10 4 10 M).bind _ = _
    rw [e1, pn_bs]
    show (f_X8_copyRow F 16 10 5 10 N1).bind _ = _
    rw [e2, pn_bs]
    show (f_X8_copyRow F 17 10 6 10 N2).bind _ = _
    rw [e3, pn_bs]
    show (f_X8_copyRow F 18 10 7 10 N3).bind _ = _
    rw [e4, pn_bs]
    show (f_X8_copyRow F 19 10 8 10 N4).bind _ = _
    rw [e5, pn_bs]
    show (f_X8_copyRow F 20 10 9 10 N5).bind _ = _
    rw [e6, pn_bs]
    show (f_X8_copyRow F 21 10 10 10 N6).bind _ = _
    rw [e7, pn_bs]
    show (f_X8_copyRow F 22 8 11 8 N7).bind _ = _
    rw [e8, pn_bs]
    show (f_X8_copyRow F 23 8 12 8 N8).bind _ = _
    rw [e9, pn_bs]
    show (f_X8_copyRow F 24 8 13 8 N9).bind _ = _
    rw [e10, pn_bs, pn_ltM, pn_ltM, pn_ltM]
    rw [gst_ne _ _ _ _ (show (14 : Nat) ≠ 3 by omega), gst_ne _ _ _ _ (show (14 : Nat) ≠ 3 by omega), gst_ne _ _ _ _ (show (14 : Nat) ≠ 3 by omega)]
  have ha : ∀ k, (k < 4 ∨ 13 < k) → N10 k = M k := fun k hk => by
    rw [f10 _ (by omega), f9 _ (by omega), f8 _ (by omega), f7 _ (by omega), f6 _ (by omega), f5 _ (by omega), f4 _ (by omega), f3 _ (by omega), f2 _ (by omega), f1 _ (by omega)]
  have hg : ∀ k, k ≠ 3 → (gst (gst (gst N10 3 10 (N10 14 10)) 3 11 (N10 14 11)) 3 12 (N10 14 12)) k = N10 k := fun k hk => by
    rw [gst_ne _ _ _ _ hk, gst_ne _ _ _ _ hk, gst_ne _ _ _ _ hk]
  refine ⟨_, hrun, fun k hk => by rw [hg k (by omega), ha k (by omega)], fun j hj => ⟨?_, ?_, ?_, ?_, ?_, ?_, ?_⟩, fun j hj => ⟨?_, ?_, ?_⟩, ?_, ?_, ?_⟩
  · rw [hg _ (by omega), f10 _ (by omega), f9 _ (by omega), f8 _ (by omega), f7 _ (by omega), f6 _ (by omega), f5 _ (by omega), f4 _ (by omega), f3 _ (by omega), f2 _ (by omega), g1 j hj]
  · rw [hg _ (by omega), f10 _ (by omega), f9 _ (by omega), f8 _ (by omega), f7 _ (by omega), f6 _ (by omega), f5 _ (by omega), f4 _ (by omega), f3 _ (by omega), g2 j hj, f1 _ (by omega)]
  · rw [hg _ (by omega), f10 _ (by omega), f9 _ (by omega), f8 _ (by omega), f7 _ (by omega), f6 _ (by omega), f5 _ (by omega), f4 _ (by omega), g3 j hj, f2 _ (by omega), f1 _ (by omega)]
  · rw [hg _ (by omega), f10 _ (by omega), f9 _ (by omega), f8 _ (by omega), f7 _ (by omega), f6 _ (by omega), f5 _ (by omega), g4 j hj, f3 _ (by omega), f2 _ (by omega), f1 _ (by omega)]
  · rw [hg _ (by omega), f10 _ (by omega), f9 _ (by omega), f8 _ (by omega), f7 _ (by omega), f6 _ (by omega), g5 j hj, f4 _ (by omega), f3 _ (by omega), f2 _ (by omega), f1 _ (by omega)]
  · rw [hg _ (by omega), f10 _ (by omega), f9 _ (by omega), f8 _ (by omega), f7 _ (by omega), g6 j hj, f5 _ (by omega), f4 _ (by omega), f3 _ (by omega), f2 _ (by omega), f1 _ (by omega)]
  · rw [hg _ (by omega), f10 _ (by omega), f9 _ (by omega), f8 _ (by omega), g7 j hj, f6 _ (by omega), f5 _ (by omega), f4 _ (by omega), f3 _ (by omega), f2 _ (by omega), f1 _ (by omega)]
  · rw [hg _ (by omega), f10 _ (by omega), f9 _ (by omega), g8 j hj, f7 _ (by omega), f6 _ (by omega), f5 _ (by omega), f4 _ (by omega), f3 _ (by omega), f2 _ (by omega), f1 _ (by omega)]
  · rw [hg _ (by omega), f10 _ (by omega), g9 j hj, f8 _ (by omega), f7 _ (by omega), f6 _ (by omega), f5 _ (by omega), f4 _ (by omega), f3 _ (by omega), f2 _ (by omega), f1 _ (by omega)]
  · rw [hg _ (by omega), g10 j hj, f9 _ (by omega), f8 _ (by omega), f7 _ (by omega), f6 _ (by omega), f5 _ (by omega), f4 _ (by omega), f3 _ (by omega), f2 _ (by omega), f1 _ (by omega)]
  · rw [gst_v, if_neg (by omega), gst_v, if_neg (by omega), gst_v, if_pos ⟨rfl, rfl⟩, ha _ (by omega)]
  · rw [gst_v, if_neg (by omega), gst_v, if_pos ⟨rfl, rfl⟩, ha _ (by omega)]
  · rw [gst_v, if_pos ⟨rfl, rfl⟩, ha _ (by omega)]
theorem e5_begin (hF : 4000 ≤ F) (M : gM) : ∃ M', f_X5_beginIn F 26 3 M = some M' ∧ (∀ k, (k < 26 ∨ 29 < k) → M' k = M k) ∧ (∀ j, j < 10 → M' 27 j = M 6 j ∧ M' 28 j = M 7 j ∧ M' 29 j = nI 0) ∧ M' 26 3 = nI 0 ∧ M' 26 4 = nI 0 ∧ M' 26 5 = M 26 5 ∧ M' 26 6 = M 26 6 := by
  obtain ⟨N1, e1, f1, g1⟩ := e8_copy (a := 6) (b := 27) (c := 10) hF (by omega) (by omega) M
  obtain ⟨N2, e2, f2, g2⟩ := e8_copy (a := 7) (b := 28) (c := 10) hF (by omega) (by omega) N1
  obtain ⟨s, ⟨h1, h2⟩, h3⟩ := up_inv (fun q p (N : gM) => f_X5_beginIn_h24 F 26 3 q (nI p) N) 10 (fun p N => (∀ k, k ≠ 29 → N k = N2 k) ∧ ∀ j, j < p → N 29 j = nI 0) (by
    rintro q p N hp ⟨q1, q2⟩
    refine ⟨gst N 29 p (nI 0), ⟨fun k hk => by rw [gst_ne _ _ _ _ hk, q1 k hk], fun j hj => ?_⟩, ?_⟩
    · rw [gst_v]
      by_cases e : j = p
      · rw [if_pos ⟨rfl, e⟩]
      · rw [if_neg (fun z => e z.2)]
        exact q2 j (by omega)
    · show f_X5_beginIn_h24_b F 26 3 _ _ _ = _
      unfold f_X5_beginIn_h24_b
      have r2 : rf 26 2 = 29 := rfl
      simp (disch := omega) only [pn_lt, pn_ltM, pl_ofN, ↓pl_m1, pl_lit, fa_litL, pn_bs, ck_n, ckh_n, ck_t, ckh_t, nI_add, nI_clamp, nI_ltI, nI_leI, nI_eq, m1_eq, m1_eq2, m1_lt, m1_le, m1_lt2, m1_le2, m1_m1, nI_m1, nI_subn, gb_n, Nat.add_zero, Nat.zero_add, Nat.zero_or, Nat.or_zero, nle_f, nle_t, nlt_f, nlt_t, neq_f, neq_t, Bool.false_eq_true, eq_self, if_true, if_false, ite_true, ite_false, and_true, true_and, and_false, false_and, decide_true, decide_false, Bool.and_true, Bool.true_and, Bool.and_false, Bool.false_and, Bool.or_false, Bool.false_or, Bool.or_true, Bool.true_or, Bool.not_true, Bool.not_false, not_true_eq_false, not_false_eq_true, r2]) 10 0 N2 F (by omega) (by omega) ⟨fun _ _ => rfl, fun j hj => absurd hj (Nat.not_lt_zero _)⟩
  have hrun : f_X5_beginIn F 26 3 M = some (gst (gst s 26 3 (nI 0)) 26 4 (nI 0)) := by
    unfold f_X5_beginIn
    show (f_X8_copyRow F 6 10 27 10 M).bind _ = _
    rw [e1, pn_bs]
    show (f_X8_copyRow F 7 10 28 10 N1).bind _ = _
    rw [e2, pn_bs]
    refine h3.trans ?_
    obtain ⟨n', en⟩ : ∃ n', F - 10 = n' + 1 := ⟨F - 11, by omega⟩
    rw [en]
    show f_X5_beginIn_h24_b F 26 3 _ _ _ = _
    unfold f_X5_beginIn_h24_b
    simp (disch := omega) only [pn_lt, pn_ltM, pl_ofN, ↓pl_m1, pl_lit, fa_litL, pn_bs, ck_n, ckh_n, ck_t, ckh_t, nI_add, nI_clamp, nI_ltI, nI_leI, nI_eq, m1_eq, m1_eq2, m1_lt, m1_le, m1_lt2, m1_le2, m1_m1, nI_m1, nI_subn, gb_n, Nat.add_zero, Nat.zero_add, Nat.zero_or, Nat.or_zero, nle_f, nle_t, nlt_f, nlt_t, neq_f, neq_t, Bool.false_eq_true, eq_self, if_true, if_false, ite_true, ite_false, and_true, true_and, and_false, false_and, decide_true, decide_false, Bool.and_true, Bool.true_and, Bool.and_false, Bool.false_and, Bool.or_false, Bool.false_or, Bool.or_true, Bool.true_or, Bool.not_true, Bool.not_false, not_true_eq_false, not_false_eq_true]
  have hg : ∀ k, k ≠ 26 → (gst (gst s 26 3 (nI 0)) 26 4 (nI 0)) k = s k := fun k hk => by
    rw [gst_ne _ _ _ _ hk, gst_ne _ _ _ _ hk]
  have h26 : s 26 = M 26 := by rw [h1 _ (by omega), f2 _ (by omega), f1 _ (by omega)]
  refine ⟨_, hrun, fun k hk => by rw [hg k (by omega), h1 k (by omega), f2 k (by omega), f1 k (by omega)], fun j hj => ⟨?_, ?_, ?_⟩, ?_, ?_, ?_, ?_⟩
  · rw [hg _ (by omega), h1 _ (by omega), f2 _ (by omega), g1 j hj]
  · rw [hg _ (by omega), h1 _ (by omega), g2 j hj, f1 _ (by omega)]
  · rw [hg _ (by omega)]; exact h2 j hj
  · rw [gst_v, if_neg (by omega), gst_v, if_pos ⟨rfl, rfl⟩]
  · rw [gst_v, if_pos ⟨rfl, rfl⟩]
  · rw [gst_v, if_neg (by omega), gst_v, if_neg (by omega), h26]
  · rw [gst_v, if_neg (by omega), gst_v, if_neg (by omega), h26]
/-- what the class does with a town that was read -/
def tl8e (F : Nat) (M4 : gM) : Option (Int32 × gM) :=
    (f_X7_copyFrom F 3 14 M4).bind fun r5 =>
    (f_X5_beginIn F 26 3 r5).bind fun r6 =>
    (f_X2_build F r6).bind fun r7 =>
    ltM (gst r7 88 4 (0 : Int32)) fun M8 =>
    ltM (gst M8 91 3 (0 : Int32)) fun M9 =>
    ck (ib (0 : Int32) 2) <|
    ltM (gst M9 38 (0 : Int32).toNatClampNeg ((0 : Int32) &&& 1)) fun M10 =>
    ck (ib (1 : Int32) 2) <|
    ltM (gst M10 38 (1 : Int32).toNatClampNeg ((0 : Int32) &&& 1)) fun M11 =>
    some (M11 3 10, M11)
/-- the half-read town, of the class alone -/
def zE8 (E : Nat → Nat → Nat) (M8 : gM) : Prop :=
  M8 14 10 = nI (E 0 0) ∧ M8 14 11 = nI (E 0 2) ∧ M8 14 12 = nI (E 0 1) ∧
  (∀ p, p < E 0 0 → M8 15 p = nI (E 1 p) ∧ M8 16 p = nI (E 2 p) ∧ M8 17 p = nI (E 3 p) ∧ M8 18 p = nI (E 4 p) ∧ M8 19 p = nI (E 6 p) ∧ M8 20 p = nI (E 7 p) ∧ M8 21 p = nI (E 8 p)) ∧
  (∀ s, s < E 0 1 → M8 22 s = nI (E 9 s) ∧ M8 23 s = nI (E 10 s) ∧ M8 24 s = nI (E 11 s))
def zE9 (E : Nat → Nat → Nat) (M9 : gM) : Prop :=
  M9 108 4 = nI (E 0 0) ∧ M9 108 6 = nI (E 0 1) ∧
  (∀ p, p < E 0 0 → M9 98 (10 + p) = nI (E 1 p) ∧ M9 99 (10 + p) = nI (E 2 p) ∧ M9 100 (10 + p) = nI (E 3 p) ∧ M9 101 (10 + p) = nI (E 4 p) ∧ M9 102 (10 + p) = nI (E 6 p) ∧ M9 103 (10 + p) = nI (E 7 p) ∧ M9 104 (10 + p) = nI (E 8 p)) ∧
  (∀ s, s < E 0 1 → M9 105 (8 + s) = nI (E 9 s) ∧ M9 106 (8 + s) = nI (E 10 s) ∧ M9 107 (8 + s) = nI (E 11 s))
theorem zE_8 {M8 M9 : gM} (h : zE E M8 M9) : zE8 E M8 := by
  obtain ⟨o1, o2, o3, o4, o5, o6, o7, o8⟩ := h
  refine ⟨o1, o2, o3, fun p hp => ?_, fun s hs => ?_⟩
  · obtain ⟨a1, a2, a3, a4, a5, a6, a7, -⟩ := o7 p hp
    exact ⟨a1, a2, a3, a4, a5, a6, a7⟩
  · obtain ⟨a1, a2, a3, -⟩ := o8 s hs
    exact ⟨a1, a2, a3⟩
theorem zE_9 {M8 M9 : gM} (h : zE E M8 M9) : zE9 E M9 := by
  obtain ⟨o1, o2, o3, o4, o5, o6, o7, o8⟩ := h
  refine ⟨o4, o6, fun p hp => ?_, fun s hs => ?_⟩
  · obtain ⟨-, -, -, -, -, -, -, a1, a2, a3, a4, a5, a6, a7⟩ := o7 p hp
    exact ⟨a1, a2, a3, a4, a5, a6, a7⟩
  · obtain ⟨-, -, -, a1, a2, a3⟩ := o8 s hs
    exact ⟨a1, a2, a3⟩
theorem zB_tw (hB : zB E) : twB E (E 0 0) := ⟨hB.1.1, fun p hp => ⟨(hB.1.2.2.2.1 p hp).1, (hB.1.2.2.2.1 p hp).2.2.2.2⟩⟩
theorem e8_tail (hF : 4000 ≤ F) (hB : zB E) (hE : zE8 E M) : ∃ C, tl8e F M = some (nI (E 0 0), C) ∧
    (∀ k, (k < 3 ∨ 13 < k) → (k < 26 ∨ 29 < k) → (k < 38 ∨ 42 < k) → k ≠ 88 → k ≠ 91 → C k = M k) ∧ C 26 5 = M 26 5 ∧ C 26 6 = M 26 6 ∧ C 26 3 = nI 0 ∧ C 26 4 = nI 0 ∧
    C 3 10 = nI (E 0 0) ∧ C 3 11 = nI (E 0 2) ∧ C 3 12 = nI (E 0 1) ∧
    (∀ p, p < E 0 0 → C 4 p = nI (E 1 p) ∧ C 5 p = nI (E 2 p) ∧ C 8 p = nI (E 6 p) ∧ C 9 p = nI (E 7 p) ∧ C 10 p = nI (E 8 p) ∧ C 27 p = nI (E 3 p) ∧ C 28 p = nI (E 4 p)) ∧
    (∀ s, s < E 0 1 → C 11 s = nI (E 9 s) ∧ C 12 s = nI (E 10 s) ∧ C 13 s = nI (E 11 s)) ∧ (∀ p, p < 10 → C 29 p = nI 0) ∧
    C 39 5 = nI (lkA E (E 0 0) (E 0 0)).length ∧ (∀ i, i < (lkA E (E 0 0) (E 0 0)).length → C 40 i = nI (lkG (lkA E (E 0 0) (E 0 0)) i).1 ∧ C 41 i = nI (lkG (lkA E (E 0 0) (E 0 0)) i).2.1 ∧ C 42 i = nI (lkG (lkA E (E 0 0) (E 0 0)) i).2.2) ∧
    C 88 4 = nI 0 ∧ C 91 3 = nI 0 ∧ C 38 0 = nI 0 ∧ C 38 1 = nI 0 := by
  have hn := hB.1.1
  have hs8 := hB.1.2.1
  obtain ⟨z1, z2, z3, z4, z5⟩ := hE
  obtain ⟨N1, a1, a2, a3, a4, a5, a6, a7⟩ := e7_copy hF M
  obtain ⟨N2, b1, b2, b3, b4, b5, b6, b7⟩ := e5_begin hF N1
  have hK : twK8 E (E 0 0) N2 := ⟨by rw [b2 _ (by omega), a5, z1], fun p hp => ⟨by rw [b2 _ (by omega), (a3 p (by omega)).1]; exact (z4 p hp).1, by rw [b2 _ (by omega), (a3 p (by omega)).2.2.2.2.2.2]; exact (z4 p hp).2.2.2.2.2.2⟩⟩
  obtain ⟨N3, c1, c2, c3, c4⟩ := bd_all hF (zB_tw hB) hK
  have fq : ∀ k j, k ≠ 88 → k ≠ 91 → k ≠ 38 → (gst (gst (gst (gst N3 88 4 (nI 0)) 91 3 (nI 0)) 38 0 (nI 0)) 38 1 (nI 0)) k j = N3 k j := fun k j n1 n2 n3 => by
    rw [gst_v, gst_v, gst_v, gst_v, if_neg (by omega), if_neg (by omega), if_neg (by omega), if_neg (by omega)]
  have fc : ∀ k j, k ≠ 88 → k ≠ 91 → k ≠ 38 → ¬ (k = 39 ∧ j = 5) → ¬ (40 ≤ k ∧ k ≤ 42) → (gst (gst (gst (gst N3 88 4 (nI 0)) 91 3 (nI 0)) 38 0 (nI 0)) 38 1 (nI 0)) k j = N2 k j := fun k j n1 n2 n3 n4 n5 => by
    rw [fq k j n1 n2 n3, c2 k j n4 n5]
  have h310 : N3 3 10 = nI (E 0 0) := by rw [c2 _ _ (by omega) (by omega), hK.1]
  refine ⟨gst (gst (gst (gst N3 88 4 (nI 0)) 91 3 (nI 0)) 38 0 (nI 0)) 38 1 (nI 0), ?_, fun k n1 n2 n3 n4 n5 => ?_, ?_, ?_, ?_, ?_, ?_, ?_, ?_, fun p hp => ?_, fun s hs => ?_, fun p hp => ?_, ?_, fun i hi => ?_, ?_, ?_, ?_, ?_⟩
  · unfold tl8e
    rw [a1, pn_bs, b1, pn_bs, c1, pn_bs]
    have e0 : nI 0 &&& nI 1 = nI 0 := by decide +kernel
    simp (disch := omega) only [pn_lt, pn_ltM, pl_ofN, ↓pl_m1, pl_lit, fa_litL, pn_bs, ck_n, ckh_n, ck_t, ckh_t, nI_add, nI_clamp, nI_ltI, nI_leI, nI_eq, m1_eq, m1_eq2, m1_lt, m1_le, m1_lt2, m1_le2, m1_m1, nI_m1, nI_subn, gb_n, Nat.add_zero, Nat.zero_add, Nat.zero_or, Nat.or_zero, nle_f, nle_t, nlt_f, nlt_t, neq_f, neq_t, Bool.false_eq_true, eq_self, if_true, if_false, ite_true, ite_false, and_true, true_and, and_false, false_and, decide_true, decide_false, Bool.and_true, Bool.true_and, Bool.and_false, Bool.false_and, Bool.or_false, Bool.false_or, Bool.or_true, Bool.true_or, Bool.not_true, Bool.not_false, not_true_eq_false, not_false_eq_true, e0, gst_v, h310]
  · funext j
    rw [fc k j n4 n5 (by omega) (by omega) (by omega), b2 k n2, a2 k n1]
  · rw [fc _ _ (by omega) (by omega) (by omega) (by omega) (by omega), b6, a2 _ (by omega)]
  · rw [fc _ _ (by omega) (by omega) (by omega) (by omega) (by omega), b7, a2 _ (by omega)]
  · rw [fc _ _ (by omega) (by omega) (by omega) (by omega) (by omega), b4]
  · rw [fc _ _ (by omega) (by omega) (by omega) (by omega) (by omega), b5]
  · rw [fc _ _ (by omega) (by omega) (by omega) (by omega) (by omega), b2 _ (by omega), a5, z1]
  · rw [fc _ _ (by omega) (by omega) (by omega) (by omega) (by omega), b2 _ (by omega), a6, z2]
  · rw [fc _ _ (by omega) (by omega) (by omega) (by omega) (by omega), b2 _ (by omega), a7, z3]
  · obtain ⟨u1, u2, u3, u4, u5, u6, u7⟩ := a3 p (by omega)
    obtain ⟨v1, v2, v3, v4, v5, v6, v7⟩ := z4 p hp
    obtain ⟨w1, w2, w3⟩ := b3 p (by omega)
    refine ⟨?_, ?_, ?_, ?_, ?_, ?_, ?_⟩
    · rw [fc _ _ (by omega) (by omega) (by omega) (by omega) (by omega), b2 _ (by omega), u1, v1]
    · rw [fc _ _ (by omega) (by omega) (by omega) (by omega) (by omega), b2 _ (by omega), u2, v2]
    · rw [fc _ _ (by omega) (by omega) (by omega) (by omega) (by omega), b2 _ (by omega), u5, v5]
    · rw [fc _ _ (by omega) (by omega) (by omega) (by omega) (by omega), b2 _ (by omega), u6, v6]
    · rw [fc _ _ (by omega) (by omega) (by omega) (by omega) (by omega), b2 _ (by omega), u7, v7]
    · rw [fc _ _ (by omega) (by omega) (by omega) (by omega) (by omega), w1, u3, v3]
    · rw [fc _ _ (by omega) (by omega) (by omega) (by omega) (by omega), w2, u4, v4]
  · obtain ⟨u1, u2, u3⟩ := a4 s (by omega)
    obtain ⟨v1, v2, v3⟩ := z5 s hs
    refine ⟨?_, ?_, ?_⟩
    · rw [fc _ _ (by omega) (by omega) (by omega) (by omega) (by omega), b2 _ (by omega), u1, v1]
    · rw [fc _ _ (by omega) (by omega) (by omega) (by omega) (by omega), b2 _ (by omega), u2, v2]
    · rw [fc _ _ (by omega) (by omega) (by omega) (by omega) (by omega), b2 _ (by omega), u3, v3]
  · rw [fc _ _ (by omega) (by omega) (by omega) (by omega) (by omega), (b3 p hp).2.2]
  · rw [fq _ _ (by omega) (by omega) (by omega), c3]
  · obtain ⟨u1, u2, u3⟩ := c4 i hi
    exact ⟨by rw [fq _ _ (by omega) (by omega) (by omega), u1], by rw [fq _ _ (by omega) (by omega) (by omega), u2], by rw [fq _ _ (by omega) (by omega) (by omega), u3]⟩
  · rw [gst_v, if_neg (by omega), gst_v, if_neg (by omega), gst_v, if_neg (by omega), gst_v, if_pos ⟨rfl, rfl⟩]
  · rw [gst_v, if_neg (by omega), gst_v, if_neg (by omega), gst_v, if_pos ⟨rfl, rfl⟩]
  · rw [gst_v, if_neg (by omega), gst_v, if_pos ⟨rfl, rfl⟩]
  · rw [gst_v, if_pos ⟨rfl, rfl⟩]
/-! town: what follows the reading, at the model -/
theorem e9_h148 (hF : 4000 ≤ F) (A : gM) : ∃ N, f_X9_town_h148 F F (nI 0) A = f_X9_town_h280 F F (nI 0) N ∧
    (∀ k j, ¬ (98 ≤ k ∧ k ≤ 104 ∧ j < 10) → ¬ (k = 96 ∧ j < 30) → N k j = A k j) ∧
    ∀ p, p < 10 → N 98 p = A 98 (10 + p) ∧ N 99 p = A 99 (10 + p) ∧ N 102 p = A 102 (10 + p) ∧ N 103 p = A 103 (10 + p) ∧ N 104 p = A 104 (10 + p) ∧ N 96 p = A 100 (10 + p) ∧ N 96 (10 + p) = A 101 (10 + p) ∧ N 96 (20 + p) = nI 0 := by
  obtain ⟨s, ⟨h1, h2⟩, h3⟩ := up_inv (fun q p (N : gM) => f_X9_town_h148 F q (nI p) N) 10 (fun i N => (∀ k j, ¬ (98 ≤ k ∧ k ≤ 104 ∧ j < 10) → ¬ (k = 96 ∧ j < 30) → N k j = A k j) ∧
    ∀ p, p < i → N 98 p = A 98 (10 + p) ∧ N 99 p = A 99 (10 + p) ∧ N 102 p = A 102 (10 + p) ∧ N 103 p = A 103 (10 + p) ∧ N 104 p = A 104 (10 + p) ∧ N 96 p = A 100 (10 + p) ∧ N 96 (10 + p) = A 101 (10 + p) ∧ N 96 (20 + p) = nI 0) (by
    rintro q i N hi ⟨q1, q2⟩
    have v1 := q1 98 (10 + i) (by omega) (by omega)
    have v2 := q1 99 (10 + i) (by omega) (by omega)
    have v3 := q1 102 (10 + i) (by omega) (by omega)
    have v4 := q1 103 (10 + i) (by omega) (by omega)
    have v5 := q1 104 (10 + i) (by omega) (by omega)
    have v6 := q1 100 (10 + i) (by omega) (by omega)
    have v7 := q1 101 (10 + i) (by omega) (by omega)
    refine ⟨gst (gst (gst (gst (gst (gst (gst (gst N 98 i (A 98 (10 + i))) 99 i (A 99 (10 + i))) 102 i (A 102 (10 + i))) 103 i (A 103 (10 + i))) 104 i (A 104 (10 + i))) 96 i (A 100 (10 + i))) 96 (10 + i) (A 101 (10 + i))) 96 (20 + i) (nI 0), ⟨fun k j n1 n2 => ?_, fun p hp => ?_⟩, ?_⟩
    · rw [gst_v, if_neg (by omega), gst_v, if_neg (by omega), gst_v, if_neg (by omega), gst_v, if_neg (by omega), gst_v, if_neg (by omega), gst_v, if_neg (by omega), gst_v, if_neg (by omega), gst_v, if_neg (by omega)]
      exact q1 k j n1 n2
    · by_cases e : p = i
      · subst e
        refine ⟨?_, ?_, ?_, ?_, ?_, ?_, ?_, ?_⟩ <;> simp (disch := omega) only [pn_lt, pn_ltM, pl_ofN, ↓pl_m1, pl_lit, fa_litL, pn_bs, ck_n, ckh_n, ck_t, ckh_t, nI_add, nI_clamp, nI_ltI, nI_leI, nI_eq, m1_eq, m1_eq2, m1_lt, m1_le, m1_lt2, m1_le2, m1_m1, nI_m1, nI_subn, gb_n, Nat.add_zero, Nat.zero_add, Nat.zero_or, Nat.or_zero, nle_f, nle_t, nlt_f, nlt_t, neq_f, neq_t, Bool.false_eq_true, eq_self, if_true, if_false, ite_true, ite_false, and_true, true_and, and_false, false_and, decide_true, decide_false, Bool.and_true, Bool.true_and, Bool.and_false, Bool.false_and, Bool.or_false, Bool.false_or, Bool.or_true, Bool.true_or, Bool.not_true, Bool.not_false, not_true_eq_false, not_false_eq_true, gst_v]
      · obtain ⟨a1, a2, a3, a4, a5, a6, a7, a8⟩ := q2 p (by omega)
        refine ⟨?_, ?_, ?_, ?_, ?_, ?_, ?_, ?_⟩
        · simp (disch := omega) only [pn_lt, pn_ltM, pl_ofN, ↓pl_m1, pl_lit, fa_litL, pn_bs, ck_n, ckh_n, ck_t, ckh_t, nI_add, nI_clamp, nI_ltI, nI_leI, nI_eq, m1_eq, m1_eq2, m1_lt, m1_le, m1_lt2, m1_le2, m1_m1, nI_m1, nI_subn, gb_n, Nat.add_zero, Nat.zero_add, Nat.zero_or, Nat.or_zero, nle_f, nle_t, nlt_f, nlt_t, neq_f, neq_t, Bool.false_eq_true, eq_self, if_true, if_false, ite_true, ite_false, and_true, true_and, and_false, false_and, decide_true, decide_false, Bool.and_true, Bool.true_and, Bool.and_false, Bool.false_and, Bool.or_false, Bool.false_or, Bool.or_true, Bool.true_or, Bool.not_true, Bool.not_false, not_true_eq_false, not_false_eq_true, gst_v, a1]
        · simp (disch := omega) only [pn_lt, pn_ltM, pl_ofN, ↓pl_m1, pl_lit, fa_litL, pn_bs, ck_n, ckh_n, ck_t, ckh_t, nI_add, nI_clamp, nI_ltI, nI_leI, nI_eq, m1_eq, m1_eq2, m1_lt, m1_le, m1_lt2, m1_le2, m1_m1, nI_m1, nI_subn, gb_n, Nat.add_zero, Nat.zero_add, Nat.zero_or, Nat.or_zero, nle_f, nle_t, nlt_f, nlt_t, neq_f, neq_t, Bool.false_eq_true, eq_self, if_true, if_false, ite_true, ite_false, and_true, true_and, and_false, false_and, decide_true, decide_false, Bool.and_true, Bool.true_and, Bool.and_false, Bool.false_and, Bool.or_false, Bool.false_or, Bool.or_true, Bool.true_or, Bool.not_true, Bool.not_false, not_true_eq_false, not_false_eq_true, gst_v, a2]
        · simp (disch := omega) only [pn_lt, pn_ltM, pl_ofN, ↓pl_m1, pl_lit, fa_litL, pn_bs, ck_n, ckh_n, ck_t, ckh_t, nI_add, nI_clamp, nI_ltI, nI_leI, nI_eq, m1_eq, m1_eq2, m1_lt, m1_le, m1_lt2, m1_le2, m1_m1, nI_m1, nI_subn, gb_n, Nat.add_zero, Nat.zero_add, Nat.zero_or, Nat.or_zero, nle_f, nle_t, nlt_f, nlt_t, neq_f, neq_t, Bool.false_eq_true, eq_self, if_true, if_false, ite_true, ite_false, and_true, true_and, and_false, false_and, decide_true, decide_false, Bool.and_true, Bool.true_and, Bool.and_false, Bool.false_and, Bool.or_false, Bool.false_or, Bool.or_true, Bool.true_or, Bool.not_true, Bool.not_false, not_true_eq_false, not_false_eq_true, gst_v, a3]
        · simp (disch := omega) only [pn_lt, pn_ltM, pl_ofN, ↓pl_m1, pl_lit, fa_litL, pn_bs, ck_n, ckh_n, ck_t, ckh_t, nI_add, nI_clamp, nI_ltI, nI_leI, nI_eq, m1_eq, m1_eq2, m1_lt, m1_le, m1_lt2, m1_le2, m1_m1, nI_m1, nI_subn, gb_n, Nat.add_zero, Nat.zero_add, Nat.zero_or, Nat.or_zero, nle_f, nle_t, nlt_f, nlt_t, neq_f, neq_t, Bool.false_eq_true, eq_self, if_true, if_false, ite_true, ite_false, and_true, true_and, and_false, false_and, decide_true, decide_false, Bool.and_true, Bool.true_and, Bool.and_false, Bool.false_and, Bool.or_false, Bool.false_or, Bool.or_true, Bool.true_or, Bool.not_true, Bool.not_false, not_true_eq_false, not_false_eq_true, gst_v, a4]
        · simp (disch := omega) only [pn_lt, pn_ltM, pl_ofN, ↓pl_m1, pl_lit, fa_litL, pn_bs, ck_n, ckh_n, ck_t, ckh_t, nI_add, nI_clamp, nI_ltI, nI_leI, nI_eq, m1_eq, m1_eq2, m1_lt, m1_le, m1_lt2, m1_le2, m1_m1, nI_m1, nI_subn, gb_n, Nat.add_zero, Nat.zero_add, Nat.zero_or, Nat.or_zero, nle_f, nle_t, nlt_f, nlt_t, neq_f, neq_t, Bool.false_eq_true, eq_self, if_true, if_false, ite_true, ite_false, and_true, true_and, and_false, false_and, decide_true, decide_false, Bool.and_true, Bool.true_and, Bool.and_false, Bool.false_and, Bool.or_false, Bool.false_or, Bool.or_true, Bool.true_or, Bool.not_true, Bool.not_false, not_true_eq_false, not_false_eq_true, gst_v, a5]
        · simp (disch := omega) only [pn_lt, pn_ltM, pl_ofN, ↓pl_m1, pl_lit, fa_litL, pn_bs, ck_n, ckh_n, ck_t, ckh_t, nI_add, nI_clamp, nI_ltI, nI_leI, nI_eq, m1_eq, m1_eq2, m1_lt, m1_le, m1_lt2, m1_le2, m1_m1, nI_m1, nI_subn, gb_n, Nat.add_zero, Nat.zero_add, Nat.zero_or, Nat.or_zero, nle_f, nle_t, nlt_f, nlt_t, neq_f, neq_t, Bool.false_eq_true, eq_self, if_true, if_false, ite_true, ite_false, and_true, true_and, and_false, false_and, decide_true, decide_false, Bool.and_true, Bool.true_and, Bool.and_false, Bool.false_and, Bool.or_false, Bool.false_or, Bool.or_true, Bool.true_or, Bool.not_true, Bool.not_false, not_true_eq_false, not_false_eq_true, gst_v, a6]
        · simp (disch := omega) only [pn_lt, pn_ltM, pl_ofN, ↓pl_m1, pl_lit, fa_litL, pn_bs, ck_n, ckh_n, ck_t, ckh_t, nI_add, nI_clamp, nI_ltI, nI_leI, nI_eq, m1_eq, m1_eq2, m1_lt, m1_le, m1_lt2, m1_le2, m1_m1, nI_m1, nI_subn, gb_n, Nat.add_zero, Nat.zero_add, Nat.zero_or, Nat.or_zero, nle_f, nle_t, nlt_f, nlt_t, neq_f, neq_t, Bool.false_eq_true, eq_self, if_true, if_false, ite_true, ite_false, and_true, true_and, and_false, false_and, decide_true, decide_false, Bool.and_true, Bool.true_and, Bool.and_false, Bool.false_and, Bool.or_false, Bool.false_or, Bool.or_true, Bool.true_or, Bool.not_true, Bool.not_false, not_true_eq_false, not_false_eq_true, gst_v, a7]
        · simp (disch := omega) only [pn_lt, pn_ltM, pl_ofN, ↓pl_m1, pl_lit, fa_litL, pn_bs, ck_n, ckh_n, ck_t, ckh_t, nI_add, nI_clamp, nI_ltI, nI_leI, nI_eq, m1_eq, m1_eq2, m1_lt, m1_le, m1_lt2, m1_le2, m1_m1, nI_m1, nI_subn, gb_n, Nat.add_zero, Nat.zero_add, Nat.zero_or, Nat.or_zero, nle_f, nle_t, nlt_f, nlt_t, neq_f, neq_t, Bool.false_eq_true, eq_self, if_true, if_false, ite_true, ite_false, and_true, true_and, and_false, false_and, decide_true, decide_false, Bool.and_true, Bool.true_and, Bool.and_false, Bool.false_and, Bool.or_false, Bool.false_or, Bool.or_true, Bool.true_or, Bool.not_true, Bool.not_false, not_true_eq_false, not_false_eq_true, gst_v, a8]
    · show f_X9_town_h148_b F _ _ _ = _
      unfold f_X9_town_h148_b
      simp (disch := omega) only [pn_lt, pn_ltM, pl_ofN, ↓pl_m1, pl_lit, fa_litL, pn_bs, ck_n, ckh_n, ck_t, ckh_t, nI_add, nI_clamp, nI_ltI, nI_leI, nI_eq, m1_eq, m1_eq2, m1_lt, m1_le, m1_lt2, m1_le2, m1_m1, nI_m1, nI_subn, gb_n, Nat.add_zero, Nat.zero_add, Nat.zero_or, Nat.or_zero, nle_f, nle_t, nlt_f, nlt_t, neq_f, neq_t, Bool.false_eq_true, eq_self, if_true, if_false, ite_true, ite_false, and_true, true_and, and_false, false_and, decide_true, decide_false, Bool.and_true, Bool.true_and, Bool.and_false, Bool.false_and, Bool.or_false, Bool.false_or, Bool.or_true, Bool.true_or, Bool.not_true, Bool.not_false, not_true_eq_false, not_false_eq_true, gst_v, v1, v2, v3, v4, v5, v6, v7]) 10 0 A F (by omega) (by omega) ⟨fun _ _ _ _ => rfl, fun p hp => absurd hp (Nat.not_lt_zero _)⟩
  refine ⟨s, h3.trans ?_, h1, h2⟩
  obtain ⟨n', en⟩ : ∃ n', F - 10 = n' + 1 := ⟨F - 11, by omega⟩
  rw [en]
  show f_X9_town_h148_b F _ _ _ = _
  unfold f_X9_town_h148_b
  rw [if_pos (by rw [show (10 : Int32) = nI 10 from rfl, nI_leI (by omega) (by omega)]; omega)]
  rfl
theorem e9_h280 (hF : 4000 ≤ F) (A : gM) : ∃ N, f_X9_town_h280 F F (nI 0) A = (f_X9_findLooks F (gst (gst (gst (gst (gst (gst N 96 30 (nI 0)) 96 32 (nI 0)) 95 30 (nI 0)) 95 33 (nI 0)) 97 0 (nI 0)) 97 1 (nI 0))).bind (fun r16 => some (r16 108 0, r16)) ∧
    (∀ k j, ¬ (105 ≤ k ∧ k ≤ 107 ∧ j < 8) → N k j = A k j) ∧
    ∀ p, p < 8 → N 105 p = A 105 (8 + p) ∧ N 106 p = A 106 (8 + p) ∧ N 107 p = A 107 (8 + p) := by
  obtain ⟨s, ⟨h1, h2⟩, h3⟩ := up_inv (fun q p (N : gM) => f_X9_town_h280 F q (nI p) N) 8 (fun i N => (∀ k j, ¬ (105 ≤ k ∧ k ≤ 107 ∧ j < 8) → N k j = A k j) ∧
    ∀ p, p < i → N 105 p = A 105 (8 + p) ∧ N 106 p = A 106 (8 + p) ∧ N 107 p = A 107 (8 + p)) (by
    rintro q i N hi ⟨q1, q2⟩
    have v1 := q1 105 (8 + i) (by omega)
    have v2 := q1 106 (8 + i) (by omega)
    have v3 := q1 107 (8 + i) (by omega)
    refine ⟨gst (gst (gst N 105 i (A 105 (8 + i))) 106 i (A 106 (8 + i))) 107 i (A 107 (8 + i)), ⟨fun k j n1 => ?_, fun p hp => ?_⟩, ?_⟩
    · rw [gst_v, if_neg (by omega), gst_v, if_neg (by omega), gst_v, if_neg (by omega)]
      exact q1 k j n1
    · by_cases e : p = i
      · subst e
        refine ⟨?_, ?_, ?_⟩ <;> simp (disch := omega) only [pn_lt, pn_ltM, pl_ofN, ↓pl_m1, pl_lit, fa_litL, pn_bs, ck_n, ckh_n, ck_t, ckh_t, nI_add, nI_clamp, nI_ltI, nI_leI, nI_eq, m1_eq, m1_eq2, m1_lt, m1_le, m1_lt2, m1_le2, m1_m1, nI_m1, nI_subn, gb_n, Nat.add_zero, Nat.zero_add, Nat.zero_or, Nat.or_zero, nle_f, nle_t, nlt_f, nlt_t, neq_f, neq_t, Bool.false_eq_true, eq_self, if_true, if_false, ite_true, ite_false, and_true, true_and, and_false, false_and, decide_true, decide_false, Bool.and_true, Bool.true_and, Bool.and_false, Bool.false_and, Bool.or_false, Bool.false_or, Bool.or_true, Bool.true_or, Bool.not_true, Bool.not_false, not_true_eq_false, not_false_eq_true, gst_v]
      · obtain ⟨a1, a2, a3⟩ := q2 p (by omega)
        refine ⟨?_, ?_, ?_⟩
        · simp (disch := omega) only [pn_lt, pn_ltM, pl_ofN, ↓pl_m1, pl_lit, fa_litL, pn_bs, ck_n, ckh_n, ck_t, ckh_t, nI_add, nI_clamp, nI_ltI, nI_leI, nI_eq, m1_eq, m1_eq2, m1_lt, m1_le, m1_lt2, m1_le2, m1_m1, nI_m1, nI_subn, gb_n, Nat.add_zero, Nat.zero_add, Nat.zero_or, Nat.or_zero, nle_f, nle_t, nlt_f, nlt_t, neq_f, neq_t, Bool.false_eq_true, eq_self, if_true, if_false, ite_true, ite_false, and_true, true_and, and_false, false_and, decide_true, decide_false, Bool.and_true, Bool.true_and, Bool.and_false, Bool.false_and, Bool.or_false, Bool.false_or, Bool.or_true, Bool.true_or, Bool.not_true, Bool.not_false, not_true_eq_false, not_false_eq_true, gst_v, a1]
        · simp (disch := omega) only [pn_lt, pn_ltM, pl_ofN, ↓pl_m1, pl_lit, fa_litL, pn_bs, ck_n, ckh_n, ck_t, ckh_t, nI_add, nI_clamp, nI_ltI, nI_leI, nI_eq, m1_eq, m1_eq2, m1_lt, m1_le, m1_lt2, m1_le2, m1_m1, nI_m1, nI_subn, gb_n, Nat.add_zero, Nat.zero_add, Nat.zero_or, Nat.or_zero, nle_f, nle_t, nlt_f, nlt_t, neq_f, neq_t, Bool.false_eq_true, eq_self, if_true, if_false, ite_true, ite_false, and_true, true_and, and_false, false_and, decide_true, decide_false, Bool.and_true, Bool.true_and, Bool.and_false, Bool.false_and, Bool.or_false, Bool.false_or, Bool.or_true, Bool.true_or, Bool.not_true, Bool.not_false, not_true_eq_false, not_false_eq_true, gst_v, a2]
        · simp (disch := omega) only [pn_lt, pn_ltM, pl_ofN, ↓pl_m1, pl_lit, fa_litL, pn_bs, ck_n, ckh_n, ck_t, ckh_t, nI_add, nI_clamp, nI_ltI, nI_leI, nI_eq, m1_eq, m1_eq2, m1_lt, m1_le, m1_lt2, m1_le2, m1_m1, nI_m1, nI_subn, gb_n, Nat.add_zero, Nat.zero_add, Nat.zero_or, Nat.or_zero, nle_f, nle_t, nlt_f, nlt_t, neq_f, neq_t, Bool.false_eq_true, eq_self, if_true, if_false, ite_true, ite_false, and_true, true_and, and_false, false_and, decide_true, decide_false, Bool.and_true, Bool.true_and, Bool.and_false, Bool.false_and, Bool.or_false, Bool.false_or, Bool.or_true, Bool.true_or, Bool.not_true, Bool.not_false, not_true_eq_false, not_false_eq_true, gst_v, a3]
    · show f_X9_town_h280_b F _ _ _ = _
      unfold f_X9_town_h280_b
      simp (disch := omega) only [pn_lt, pn_ltM, pl_ofN, ↓pl_m1, pl_lit, fa_litL, pn_bs, ck_n, ckh_n, ck_t, ckh_t, nI_add, nI_clamp, nI_ltI, nI_leI, nI_eq, m1_eq, m1_eq2, m1_lt, m1_le, m1_lt2, m1_le2, m1_m1, nI_m1, nI_subn, gb_n, Nat.add_zero, Nat.zero_add, Nat.zero_or, Nat.or_zero, nle_f, nle_t, nlt_f, nlt_t, neq_f, neq_t, Bool.false_eq_true, eq_self, if_true, if_false, ite_true, ite_false, and_true, true_and, and_false, false_and, decide_true, decide_false, Bool.and_true, Bool.true_and, Bool.and_false, Bool.false_and, Bool.or_false, Bool.false_or, Bool.or_true, Bool.true_or, Bool.not_true, Bool.not_false, not_true_eq_false, not_false_eq_true, gst_v, v1, v2, v3]) 8 0 A F (by omega) (by omega) ⟨fun _ _ _ => rfl, fun p hp => absurd hp (Nat.not_lt_zero _)⟩
  refine ⟨s, h3.trans ?_, h1, h2⟩
  obtain ⟨n', en⟩ : ∃ n', F - 8 = n' + 1 := ⟨F - 9, by omega⟩
  rw [en]
  show f_X9_town_h280_b F _ _ _ = _
  unfold f_X9_town_h280_b
  have e0 : nI 0 &&& nI 1 = nI 0 := by decide +kernel
  simp (disch := omega) only [pn_lt, pn_ltM, pl_ofN, ↓pl_m1, pl_lit, fa_litL, pn_bs, ck_n, ckh_n, ck_t, ckh_t, nI_add, nI_clamp, nI_ltI, nI_leI, nI_eq, m1_eq, m1_eq2, m1_lt, m1_le, m1_lt2, m1_le2, m1_m1, nI_m1, nI_subn, gb_n, Nat.add_zero, Nat.zero_add, Nat.zero_or, Nat.or_zero, nle_f, nle_t, nlt_f, nlt_t, neq_f, neq_t, Bool.false_eq_true, eq_self, if_true, if_false, ite_true, ite_false, and_true, true_and, and_false, false_and, decide_true, decide_false, Bool.and_true, Bool.true_and, Bool.and_false, Bool.false_and, Bool.or_false, Bool.false_or, Bool.or_true, Bool.true_or, Bool.not_true, Bool.not_false, not_true_eq_false, not_false_eq_true, e0]
theorem e9_tail (hF : 4000 ≤ F) (hB : zB E) (hE : zE9 E A) (h18 : A 95 18 = nI 0) : ∃ C, f_X9_town_b101 F A = some (nI (E 0 0), C) ∧
    (∀ k j, ¬ (k = 95 ∧ (j = 14 ∨ j = 21 ∨ j = 30 ∨ j = 33)) → ¬ (k = 108 ∧ j < 2) → ¬ (98 ≤ k ∧ k ≤ 104 ∧ j < 10) → ¬ (k = 96 ∧ (j < 31 ∨ j = 32)) → ¬ (105 ≤ k ∧ k ≤ 107 ∧ j < 8) → k ≠ 97 → k ≠ 110 → C k j = A k j) ∧
    C 95 14 = nI 0 ∧ C 95 30 = nI 0 ∧ C 95 33 = nI 0 ∧ C 97 0 = nI 0 ∧ C 97 1 = nI 0 ∧ C 96 30 = nI 0 ∧ C 96 32 = nI 0 ∧ C 108 0 = nI (E 0 0) ∧ C 108 1 = nI (E 0 1) ∧
    (∀ p, p < E 0 0 → C 98 p = nI (E 1 p) ∧ C 99 p = nI (E 2 p) ∧ C 102 p = nI (E 6 p) ∧ C 103 p = nI (E 7 p) ∧ C 104 p = nI (E 8 p) ∧ C 96 p = nI (E 3 p) ∧ C 96 (10 + p) = nI (E 4 p) ∧ C 96 (20 + p) = nI 0) ∧
    (∀ s, s < E 0 1 → C 105 s = nI (E 9 s) ∧ C 106 s = nI (E 10 s) ∧ C 107 s = nI (E 11 s)) ∧
    C 95 21 = nI (lkA E (E 0 0) (E 0 0)).length ∧ (∀ i, i < (lkA E (E 0 0) (E 0 0)).length → C 110 i = nI (mk3 (lkG (lkA E (E 0 0) (E 0 0)) i))) := by
  have hn := hB.1.1
  have hs8 := hB.1.2.1
  obtain ⟨z1, z2, z4, z5⟩ := hE
  obtain ⟨N1, a1, a2, a3⟩ := e9_h148 hF (gst (gst (gst A 95 14 (nI 0)) 108 0 (nI (E 0 0))) 108 1 (nI (E 0 1)))
  obtain ⟨N2, b1, b2, b3⟩ := e9_h280 hF N1
  have f1 : ∀ k j, ¬ (k = 95 ∧ j = 14) → ¬ (k = 108 ∧ j < 2) → (gst (gst (gst A 95 14 (nI 0)) 108 0 (nI (E 0 0))) 108 1 (nI (E 0 1))) k j = A k j := fun k j n1 n2 => by
    rw [gst_v, if_neg (by omega), gst_v, if_neg (by omega), gst_v, if_neg (by omega)]
  have f2 : ∀ k j, ¬ (k = 96 ∧ (j = 30 ∨ j = 32)) → ¬ (k = 95 ∧ (j = 30 ∨ j = 33)) → k ≠ 97 → (gst (gst (gst (gst (gst (gst N2 96 30 (nI 0)) 96 32 (nI 0)) 95 30 (nI 0)) 95 33 (nI 0)) 97 0 (nI 0)) 97 1 (nI 0)) k j = N2 k j := fun k j n1 n2 n3 => by
    rw [gst_v, if_neg (by omega), gst_v, if_neg (by omega), gst_v, if_neg (by omega), gst_v, if_neg (by omega), gst_v, if_neg (by omega), gst_v, if_neg (by omega)]
  have g0 : (gst (gst (gst A 95 14 (nI 0)) 108 0 (nI (E 0 0))) 108 1 (nI (E 0 1))) 108 0 = nI (E 0 0) := by
    rw [gst_v, if_neg (by omega), gst_v, if_pos ⟨rfl, rfl⟩]
  have g1 : (gst (gst (gst A 95 14 (nI 0)) 108 0 (nI (E 0 0))) 108 1 (nI (E 0 1))) 108 1 = nI (E 0 1) := by
    rw [gst_v, if_pos ⟨rfl, rfl⟩]
  have hK : twK9 E (E 0 0) (gst (gst (gst (gst (gst (gst N2 96 30 (nI 0)) 96 32 (nI 0)) 95 30 (nI 0)) 95 33 (nI 0)) 97 0 (nI 0)) 97 1 (nI 0)) := by
    refine ⟨?_, fun p hp => ⟨?_, ?_⟩⟩
    · rw [f2 _ _ (by omega) (by omega) (by omega), b2 _ _ (by omega), a2 _ _ (by omega) (by omega), g0]
    · rw [f2 _ _ (by omega) (by omega) (by omega), b2 _ _ (by omega), (a3 p (by omega)).1, f1 _ _ (by omega) (by omega)]
      exact (z4 p hp).1
    · rw [f2 _ _ (by omega) (by omega) (by omega), b2 _ _ (by omega), (a3 p (by omega)).2.2.2.2.1, f1 _ _ (by omega) (by omega)]
      exact (z4 p hp).2.2.2.2.2.2
  obtain ⟨C, c1, c2, c3, c4⟩ := fl_all hF (zB_tw hB) hK
  have c0 : C 108 0 = nI (E 0 0) := by rw [c2 _ _ (by omega) (by omega)]; exact hK.1
  have fc : ∀ k j, ¬ (k = 95 ∧ (j = 21 ∨ j = 30 ∨ j = 33)) → k ≠ 110 → ¬ (k = 96 ∧ (j = 30 ∨ j = 32)) → k ≠ 97 → C k j = N2 k j := fun k j n1 n2 n3 n4 => by
    rw [c2 _ _ (by omega) n2, f2 _ _ n3 (by omega) n4]
  refine ⟨C, ?_, fun k j n1 n2 n3 n4 n5 n6 n7 => ?_, ?_, ?_, ?_, ?_, ?_, ?_, ?_, c0, ?_, fun p hp => ?_, fun s hs => ?_, c3, c4⟩
  · unfold f_X9_town_b101
    have e1 : gst A 95 14 (0 : Int32) 95 18 = nI 0 := by rw [gst_v, if_neg (by omega), h18]
    have x4 : ∀ (o : Option (Int32 × gM)), ck (ib (4 : Int32) 8) o = o := fun o => ck_n (k := 4) (n := 8) o (by omega) (by omega)
    have x0 : ∀ (o : Option (Int32 × gM)), ck (ib (0 : Int32) 8) o = o := fun o => ck_n (k := 0) (n := 8) o (by omega) (by omega)
    have x6 : ∀ (o : Option (Int32 × gM)), ck (ib (6 : Int32) 8) o = o := fun o => ck_n (k := 6) (n := 8) o (by omega) (by omega)
    have x1 : ∀ (o : Option (Int32 × gM)), ck (ib (1 : Int32) 8) o = o := fun o => ck_n (k := 1) (n := 8) o (by omega) (by omega)
    have y4 : (4 : Int32).toNatClampNeg = 4 := rfl
    have y0 : (0 : Int32).toNatClampNeg = 0 := rfl
    have y6 : (6 : Int32).toNatClampNeg = 6 := rfl
    have y1 : (1 : Int32).toNatClampNeg = 1 := rfl
    have e4 : gst A 95 14 (0 : Int32) 108 4 = nI (E 0 0) := by rw [gst_v, if_neg (by omega), z1]
    have e6 : gst (gst A 95 14 (0 : Int32)) 108 0 (nI (E 0 0)) 108 6 = nI (E 0 1) := by rw [gst_v, if_neg (by omega), gst_v, if_neg (by omega), z2]
    rw [pn_ltM, e1, if_pos (show nI 0 ≤ (0 : Int32) by decide), x4, x0, pn_ltM, x6, x1, pn_ltM, y4, y0, y6, y1, e4, e6]
    refine a1.trans (b1.trans ?_)
    rw [c1, pn_bs, c0]
  · rw [fc k j (by omega) n7 (by omega) n6, b2 k j (by omega), a2 k j (by omega) (by omega), f1 k j (by omega) (by omega)]
  · rw [fc _ _ (by omega) (by omega) (by omega) (by omega), b2 _ _ (by omega), a2 _ _ (by omega) (by omega), gst_v, if_neg (by omega), gst_v, if_neg (by omega), gst_v, if_pos ⟨rfl, rfl⟩]
  · rw [c2 _ _ (by omega) (by omega)]
    simp (disch := omega) only [pn_lt, pn_ltM, pl_ofN, ↓pl_m1, pl_lit, fa_litL, pn_bs, ck_n, ckh_n, ck_t, ckh_t, nI_add, nI_clamp, nI_ltI, nI_leI, nI_eq, m1_eq, m1_eq2, m1_lt, m1_le, m1_lt2, m1_le2, m1_m1, nI_m1, nI_subn, gb_n, Nat.add_zero, Nat.zero_add, Nat.zero_or, Nat.or_zero, nle_f, nle_t, nlt_f, nlt_t, neq_f, neq_t, Bool.false_eq_true, eq_self, if_true, if_false, ite_true, ite_false, and_true, true_and, and_false, false_and, decide_true, decide_false, Bool.and_true, Bool.true_and, Bool.and_false, Bool.false_and, Bool.or_false, Bool.false_or, Bool.or_true, Bool.true_or, Bool.not_true, Bool.not_false, not_true_eq_false, not_false_eq_true, gst_v]
  · rw [c2 _ _ (by omega) (by omega)]
    simp (disch := omega) only [pn_lt, pn_ltM, pl_ofN, ↓pl_m1, pl_lit, fa_litL, pn_bs, ck_n, ckh_n, ck_t, ckh_t, nI_add, nI_clamp, nI_ltI, nI_leI, nI_eq, m1_eq, m1_eq2, m1_lt, m1_le, m1_lt2, m1_le2, m1_m1, nI_m1, nI_subn, gb_n, Nat.add_zero, Nat.zero_add, Nat.zero_or, Nat.or_zero, nle_f, nle_t, nlt_f, nlt_t, neq_f, neq_t, Bool.false_eq_true, eq_self, if_true, if_false, ite_true, ite_false, and_true, true_and, and_false, false_and, decide_true, decide_false, Bool.and_true, Bool.true_and, Bool.and_false, Bool.false_and, Bool.or_false, Bool.false_or, Bool.or_true, Bool.true_or, Bool.not_true, Bool.not_false, not_true_eq_false, not_false_eq_true, gst_v]
  · rw [c2 _ _ (by omega) (by omega)]
    simp (disch := omega) only [pn_lt, pn_ltM, pl_ofN, ↓pl_m1, pl_lit, fa_litL, pn_bs, ck_n, ckh_n, ck_t, ckh_t, nI_add, nI_clamp, nI_ltI, nI_leI, nI_eq, m1_eq, m1_eq2, m1_lt, m1_le, m1_lt2, m1_le2, m1_m1, nI_m1, nI_subn, gb_n, Nat.add_zero, Nat.zero_add, Nat.zero_or, Nat.or_zero, nle_f, nle_t, nlt_f, nlt_t, neq_f, neq_t, Bool.false_eq_true, eq_self, if_true, if_false, ite_true, ite_false, and_true, true_and, and_false, false_and, decide_true, decide_false, Bool.and_true, Bool.true_and, Bool.and_false, Bool.false_and, Bool.or_false, Bool.false_or, Bool.or_true, Bool.true_or, Bool.not_true, Bool.not_false, not_true_eq_false, not_false_eq_true, gst_v]
  · rw [c2 _ _ (by omega) (by omega)]
    simp (disch := omega) only [pn_lt, pn_ltM, pl_ofN, ↓pl_m1, pl_lit, fa_litL, pn_bs, ck_n, ckh_n, ck_t, ckh_t, nI_add, nI_clamp, nI_ltI, nI_leI, nI_eq, m1_eq, m1_eq2, m1_lt, m1_le, m1_lt2, m1_le2, m1_m1, nI_m1, nI_subn, gb_n, Nat.add_zero, Nat.zero_add, Nat.zero_or, Nat.or_zero, nle_f, nle_t, nlt_f, nlt_t, neq_f, neq_t, Bool.false_eq_true, eq_self, if_true, if_false, ite_true, ite_false, and_true, true_and, and_false, false_and, decide_true, decide_false, Bool.and_true, Bool.true_and, Bool.and_false, Bool.false_and, Bool.or_false, Bool.false_or, Bool.or_true, Bool.true_or, Bool.not_true, Bool.not_false, not_true_eq_false, not_false_eq_true, gst_v]
  · rw [c2 _ _ (by omega) (by omega)]
    simp (disch := omega) only [pn_lt, pn_ltM, pl_ofN, ↓pl_m1, pl_lit, fa_litL, pn_bs, ck_n, ckh_n, ck_t, ckh_t, nI_add, nI_clamp, nI_ltI, nI_leI, nI_eq, m1_eq, m1_eq2, m1_lt, m1_le, m1_lt2, m1_le2, m1_m1, nI_m1, nI_subn, gb_n, Nat.add_zero, Nat.zero_add, Nat.zero_or, Nat.or_zero, nle_f, nle_t, nlt_f, nlt_t, neq_f, neq_t, Bool.false_eq_true, eq_self, if_true, if_false, ite_true, ite_false, and_true, true_and, and_false, false_and, decide_true, decide_false, Bool.and_true, Bool.true_and, Bool.and_false, Bool.false_and, Bool.or_false, Bool.false_or, Bool.or_true, Bool.true_or, Bool.not_true, Bool.not_false, not_true_eq_false, not_false_eq_true, gst_v]
  · rw [c2 _ _ (by omega) (by omega)]
    simp (disch := omega) only [pn_lt, pn_ltM, pl_ofN, ↓pl_m1, pl_lit, fa_litL, pn_bs, ck_n, ckh_n, ck_t, ckh_t, nI_add, nI_clamp, nI_ltI, nI_leI, nI_eq, m1_eq, m1_eq2, m1_lt, m1_le, m1_lt2, m1_le2, m1_m1, nI_m1, nI_subn, gb_n, Nat.add_zero, Nat.zero_add, Nat.zero_or, Nat.or_zero, nle_f, nle_t, nlt_f, nlt_t, neq_f, neq_t, Bool.false_eq_true, eq_self, if_true, if_false, ite_true, ite_false, and_true, true_and, and_false, false_and, decide_true, decide_false, Bool.and_true, Bool.true_and, Bool.and_false, Bool.false_and, Bool.or_false, Bool.false_or, Bool.or_true, Bool.true_or, Bool.not_true, Bool.not_false, not_true_eq_false, not_false_eq_true, gst_v]
  · rw [fc _ _ (by omega) (by omega) (by omega) (by omega), b2 _ _ (by omega), a2 _ _ (by omega) (by omega), g1]
  · obtain ⟨u1, u2, u3, u4, u5, u6, u7, u8⟩ := a3 p (by omega)
    obtain ⟨v1, v2, v3, v4, v5, v6, v7⟩ := z4 p hp
    refine ⟨?_, ?_, ?_, ?_, ?_, ?_, ?_, ?_⟩
    · rw [fc _ _ (by omega) (by omega) (by omega) (by omega), b2 _ _ (by omega), u1, f1 _ _ (by omega) (by omega), v1]
    · rw [fc _ _ (by omega) (by omega) (by omega) (by omega), b2 _ _ (by omega), u2, f1 _ _ (by omega) (by omega), v2]
    · rw [fc _ _ (by omega) (by omega) (by omega) (by omega), b2 _ _ (by omega), u3, f1 _ _ (by omega) (by omega), v5]
    · rw [fc _ _ (by omega) (by omega) (by omega) (by omega), b2 _ _ (by omega), u4, f1 _ _ (by omega) (by omega), v6]
    · rw [fc _ _ (by omega) (by omega) (by omega) (by omega), b2 _ _ (by omega), u5, f1 _ _ (by omega) (by omega), v7]
    · rw [fc _ _ (by omega) (by omega) (by omega) (by omega), b2 _ _ (by omega), u6, f1 _ _ (by omega) (by omega), v3]
    · rw [fc _ _ (by omega) (by omega) (by omega) (by omega), b2 _ _ (by omega), u7, f1 _ _ (by omega) (by omega), v4]
    · rw [fc _ _ (by omega) (by omega) (by omega) (by omega), b2 _ _ (by omega), u8]
  · obtain ⟨u1, u2, u3⟩ := b3 s (by omega)
    obtain ⟨v1, v2, v3⟩ := z5 s hs
    refine ⟨?_, ?_, ?_⟩
    · rw [fc _ _ (by omega) (by omega) (by omega) (by omega), u1, a2 _ _ (by omega) (by omega), f1 _ _ (by omega) (by omega), v1]
    · rw [fc _ _ (by omega) (by omega) (by omega) (by omega), u2, a2 _ _ (by omega) (by omega), f1 _ _ (by omega) (by omega), v2]
    · rw [fc _ _ (by omega) (by omega) (by omega) (by omega), u3, a2 _ _ (by omega) (by omega), f1 _ _ (by omega) (by omega), v3]
end EV
