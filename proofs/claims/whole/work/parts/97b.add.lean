/-! whole clauses -/
def zCR (T : Nat → Nat) (tl t : Nat) (M8 M9 : gM) (o8 : Option gM) (o9 : (gM → Option (Int32 × gM)) → Option (Int32 × gM)) : Prop :=
  ∃ fn' t' A8 A9 E', o8 = some A8 ∧ (∀ K, o9 K = K A9) ∧ zR T tl A8 A9 fn' t' ∧ (∀ k j, ¬ (14 ≤ k ∧ k ≤ 25) → A8 k j = M8 k j) ∧
    (∀ k j, ¬ (k = 95 ∧ 15 ≤ j ∧ j ≤ 19) → ¬ (98 ≤ k ∧ k ≤ 104 ∧ 10 ≤ j) → ¬ (105 ≤ k ∧ k ≤ 107 ∧ 8 ≤ j) → ¬ (k = 108 ∧ 4 ≤ j) → A9 k j = M9 k j) ∧
    (fn' = 0 → t < t' ∧ zE E' A8 A9 ∧ zB E')
/-- a town with one part more, its row nv -/
def addE (E : Nat → Nat → Nat) (n : Nat) (nv : Nat → Nat) : Nat → Nat → Nat := fun c i => if c = 0 then (if i = 0 then n + 1 else E 0 i) else if c ≤ 8 ∧ i = n then nv c else E c i
theorem addE_old {E : Nat → Nat → Nat} {n : Nat} {nv : Nat → Nat} {c i : Nat} (hc : c ≠ 0) (h : 8 < c ∨ i ≠ n) : addE E n nv c i = E c i := by
  unfold addE
  rw [if_neg hc, if_neg (by omega)]
theorem addE_new {E : Nat → Nat → Nat} {n : Nat} {nv : Nat → Nat} {c : Nat} (hc : c ≠ 0) (h : c ≤ 8) : addE E n nv c n = nv c := by
  unfold addE
  rw [if_neg hc, if_pos ⟨h, rfl⟩]
theorem addE_00 (E : Nat → Nat → Nat) (n : Nat) (nv : Nat → Nat) : addE E n nv 0 0 = n + 1 := rfl
theorem addE_0 {E : Nat → Nat → Nat} {n : Nat} {nv : Nat → Nat} {i : Nat} (h : i ≠ 0) : addE E n nv 0 i = E 0 i := by
  unfold addE
  rw [if_pos rfl, if_neg h]
theorem zB_add {E : Nat → Nat → Nat} (h : zB E) (hn : E 0 0 < 10) {nv : Nat → Nat} (h1 : nv 1 ≤ 2) (h2 : nv 2 ≤ 3) (h3 : nv 3 ≤ 9) (h4 : nv 4 ≤ 99) (h6 : nv 6 ≤ 11) (h7 : nv 7 ≤ 11) (h8 : nv 8 = 0) : zB (addE E (E 0 0) nv) := by
  obtain ⟨⟨b1, b2, b3, b4, b5, b6⟩, b7, b8⟩ := h
  have hp2 : 2 ^ E 0 0 < 2 ^ (E 0 0 + 1) := Nat.pow_lt_pow_right (by omega) (by omega)
  refine ⟨⟨?_, ?_, ?_, ?_, ?_, ?_⟩, ?_, ?_⟩
  · rw [addE_00]; omega
  · rw [addE_0 (by omega)]; exact b2
  · rw [addE_0 (by omega)]; exact b3
  · rw [addE_00]
    intro p hp
    by_cases e : p = E 0 0
    · subst e
      rw [addE_new (by omega) (by omega), addE_new (by omega) (by omega), addE_new (by omega) (by omega), addE_new (by omega) (by omega), addE_new (by omega) (by omega), h8]
      exact ⟨h1, h2, h6, h7, Nat.two_pow_pos _⟩
    · rw [addE_old (by omega) (.inr e), addE_old (by omega) (.inr e), addE_old (by omega) (.inr e), addE_old (by omega) (.inr e), addE_old (by omega) (.inr e)]
      obtain ⟨c1, c2, c3, c4, c5⟩ := b4 p (by omega)
      exact ⟨c1, c2, c3, c4, by omega⟩
  · rw [addE_0 (by omega)]
    intro s hs
    rw [addE_old (by omega) (.inl (by omega)), addE_old (by omega) (.inl (by omega)), addE_old (by omega) (.inl (by omega))]
    exact b5 s hs
  · rw [addE_00, addE_0 (by omega), fb_sm_succ, addE_new (by omega) (by omega), h8]
    have e1 : fb_ct (fun q => (0 : Nat).testBit q) 28 = 0 := fb_ct_zero.mpr (fun k _ => Nat.zero_testBit k)
    rw [e1, ← b6]
    show fb_sm _ (E 0 0) = _
    refine fb_sm_cong (fun k hk => ?_)
    rw [addE_old (by omega) (.inr (by omega))]
  · rw [addE_00]
    intro p hp
    by_cases e : p = E 0 0
    · subst e
      rw [addE_new (by omega) (by omega), addE_new (by omega) (by omega)]
      exact ⟨h3, h4⟩
    · rw [addE_old (by omega) (.inr e), addE_old (by omega) (.inr e)]
      exact b7 p (by omega)
  · rw [addE_00]
    intro p q hp hq
    by_cases e : p = E 0 0
    · by_cases e2 : q = E 0 0
      · rw [e, e2]
      · rw [e, addE_new (by omega) (by omega), h8, addE_old (by omega) (.inr e2), Nat.zero_testBit, bits_of_lt (b4 q (by omega)).2.2.2.2 (Nat.le_refl _)]
    · by_cases e2 : q = E 0 0
      · rw [e2, addE_new (by omega) (by omega), h8, addE_old (by omega) (.inr e), Nat.zero_testBit, bits_of_lt (b4 p (by omega)).2.2.2.2 (Nat.le_refl _)]
      · rw [addE_old (by omega) (.inr e), addE_old (by omega) (.inr e2)]
        exact b8 p q (by omega) (by omega)
section EV
variable {T : Nat → Nat} {tl F : Nat} {M8 M9 : gM}
/-- the calls when there are too many: the fault 3, and nothing more -/
theorem z_many {t : Nat} (hz : zR T tl M8 M9 0 t) : ∃ fn' A8 A9, f_X3_fail (3 : Int32) (M8 25 3) M8 = some A8 ∧ f_X9_want (0 : Int32) (3 : Int32) (M9 95 16) M9 = some (0, A9) ∧ zR T tl A8 A9 fn' t ∧ fr8 M8 A8 ∧ fr9 M9 A9 ∧ fn' ≠ 0 := by
  obtain ⟨fn', A8, A9, a1, a2, a3, a4, a5, a6, -⟩ := z_fail (num := 3) hz (by omega) (by omega) (w8 := M8 25 3) (w9 := M9 95 16) (fun _ => (hz.2.2.2.2.2.2.2.2 rfl).2)
  exact ⟨fn', A8, A9, a1, a2, a3, a4, a5, a6⟩
theorem z_flt_num {fn t : Nat} (h : zR T tl M8 M9 fn t) (c : fn ≠ 0) (a : Int32) : f_X3_readNumber F a M8 = some (nI 0, M8) := by
  obtain ⟨h8, h9, h4, e8, e9, ep, ht, et, e0⟩ := id h
  unfold f_X3_readNumber
  simp (disch := omega) only [pn_lt, pn_ltM, pl_ofN, ↓pl_m1, pl_lit, fa_litL, pn_bs, ck_n, ckh_n, ck_t, ckh_t, nI_add, nI_clamp, nI_ltI, nI_leI, nI_eq, m1_eq, m1_eq2, m1_lt, m1_le, m1_lt2, m1_le2, m1_m1, nI_m1, nI_subn, gb_n, Nat.add_zero, Nat.zero_add, Nat.zero_or, Nat.or_zero, nle_f, nle_t, nlt_f, nlt_t, neq_f, neq_t, Bool.false_eq_true, eq_self, if_true, if_false, ite_true, ite_false, and_true, true_and, and_false, false_and, decide_true, decide_false, Bool.and_true, Bool.true_and, Bool.and_false, Bool.false_and, Bool.or_false, Bool.false_or, Bool.or_true, Bool.true_or, Bool.not_true, Bool.not_false, not_true_eq_false, not_false_eq_true, e8]
theorem z_flt_end {fn t : Nat} (h : zR T tl M8 M9 fn t) (c : fn ≠ 0) : f_X3_readEnd F M8 = some M8 := by
  obtain ⟨h8, h9, h4, e8, e9, ep, ht, et, e0⟩ := id h
  unfold f_X3_readEnd
  simp (disch := omega) only [pn_lt, pn_ltM, pl_ofN, ↓pl_m1, pl_lit, fa_litL, pn_bs, ck_n, ckh_n, ck_t, ckh_t, nI_add, nI_clamp, nI_ltI, nI_leI, nI_eq, m1_eq, m1_eq2, m1_lt, m1_le, m1_lt2, m1_le2, m1_m1, nI_m1, nI_subn, gb_n, Nat.add_zero, Nat.zero_add, Nat.zero_or, Nat.or_zero, nle_f, nle_t, nlt_f, nlt_t, neq_f, neq_t, Bool.false_eq_true, eq_self, if_true, if_false, ite_true, ite_false, and_true, true_and, and_false, false_and, decide_true, decide_false, Bool.and_true, Bool.true_and, Bool.and_false, Bool.false_and, Bool.or_false, Bool.false_or, Bool.or_true, Bool.true_or, Bool.not_true, Bool.not_false, not_true_eq_false, not_false_eq_true, e8]
theorem z_flt_K {fn t : Nat} (h : zR T tl M8 M9 fn t) (c : fn ≠ 0) (K : gM → Option (Int32 × gM)) : tlK F K M9 = K M9 := by
  obtain ⟨h8, h9, h4, e8, e9, ep, ht, et, e0⟩ := id h
  unfold tlK
  simp (disch := omega) only [pn_lt, pn_ltM, pl_ofN, ↓pl_m1, pl_lit, fa_litL, pn_bs, ck_n, ckh_n, ck_t, ckh_t, nI_add, nI_clamp, nI_ltI, nI_leI, nI_eq, m1_eq, m1_eq2, m1_lt, m1_le, m1_lt2, m1_le2, m1_m1, nI_m1, nI_subn, gb_n, Nat.add_zero, Nat.zero_add, Nat.zero_or, Nat.or_zero, nle_f, nle_t, nlt_f, nlt_t, neq_f, neq_t, Bool.false_eq_true, eq_self, if_true, if_false, ite_true, ite_false, and_true, true_and, and_false, false_and, decide_true, decide_false, Bool.and_true, Bool.true_and, Bool.and_false, Bool.false_and, Bool.or_false, Bool.false_or, Bool.or_true, Bool.true_or, Bool.not_true, Bool.not_false, not_true_eq_false, not_false_eq_true, e9]
theorem zc_part (hF : 4000 ≤ F) (hb : xTb T tl) {t : Nat} {E : Nat → Nat → Nat} (hz : zR T tl M8 M9 0 t) (hE : zE E M8 M9) (hB : zB E) :
    zCR T tl t M8 M9 (f_X3_readPart F M8) (fun K => (f_X9_takeClause_b43 F (M9 95 16) (if (10 : Int32) ≤ M9 108 4 then 0 else 1) M9).bind (tlK F K)) := by
  have hn := hB.1.1
  have h10 := hE.1
  have h108 := hE.2.2.2.1
  by_cases c : E 0 0 < 10
  · obtain ⟨fn', t', x1, x2, x3, x4, x5, x6, B8, B9, p1, p2, p3, p4, p5, p6, p7⟩ := z_takePart hF hb hz c h108
    obtain ⟨fn2, t2, C8, C9, q1, q2, q3, q4, q5, q6⟩ := z_end hF hb p3
    have g9 := fr9_s q5
    have hr : f_X3_readPart F M8 = f_X3_readPart_b79 F x1 x2 x3 x4 x5 x6 B8 := by
      unfold f_X3_readPart
      rw [h10, if_pos (by rw [show (10 : Int32) = nI 10 from rfl, nI_ltI (by omega) (by omega)]; exact c), p1]
    have hK : ∀ K, (f_X9_takeClause_b43 F (M9 95 16) (if (10 : Int32) ≤ M9 108 4 then 0 else 1) M9).bind (tlK F K) = K C9 := by
      intro K
      rw [h108, if_neg (by rw [show (10 : Int32) = nI 10 from rfl, nI_leI (by omega) (by omega)]; omega)]
      unfold f_X9_takeClause_b43
      have ew := e9_want_1 (M := M9) (w := M9 95 16) (n := 3) hz.2.2.2.2.1
      rw [show (1 : Int32) = nI 1 from rfl, ew, pn_bs, if_neg (by show ¬ nI 1 = nI 0; decide), p2, pn_bs, pn_bs]
      exact q2 K
    have e4 : C8 25 4 = nI fn2 := q3.2.2.2.1
    have fn4 := q3.2.2.1
    have fr9' : ∀ k j, ¬ (k = 95 ∧ 15 ≤ j ∧ j ≤ 19) → ¬ (98 ≤ k ∧ k ≤ 104 ∧ 10 ≤ j) → ¬ (105 ≤ k ∧ k ≤ 107 ∧ 8 ≤ j) → ¬ (k = 108 ∧ 4 ≤ j) → C9 k j = M9 k j := fun k j n1 n2 n3 n4 => by rw [g9 _ _ n1, p5 k j n1 (by omega) (by omega)]
    by_cases cf : fn2 = 0
    · subst cf
      obtain ⟨y0, y1⟩ := q6 rfl
      obtain ⟨y2, y3, kd, l, w, p, a, b, z1, z2, z3, z4, z5, z6, z7, u1, u2, u3, u4, u5, u6, v1, v2, v3, v4, v5, v6⟩ := p7 y0
      subst u1; subst u2; subst u3; subst u4; subst u5; subst u6
      have k10 : C8 14 10 = nI (E 0 0) := by rw [q4 _ (by omega), p4 _ (by omega), h10]
      have hadd : f_X3_readPart_b79 F (nI kd) (nI l) (nI w) (nI p) (nI a) (nI b) B8 = some (gst (gst (gst (gst (gst (gst (gst (gst C8 15 (E 0 0) (nI kd)) 16 (E 0 0) (nI l)) 17 (E 0 0) (nI w)) 18 (E 0 0) (nI p)) 21 (E 0 0) (nI 0)) 14 10 (nI (E 0 0 + 1))) 19 (E 0 0) (nI a)) 20 (E 0 0) (nI b)) := by
        unfold f_X3_readPart_b79 f_X7_addPart f_X7_setHoursOfLatest f_X7_hasPart
        have r0 : rf 14 0 = 15 := rfl
        have r1 : rf 14 1 = 16 := rfl
        have r2 : rf 14 2 = 17 := rfl
        have r3 : rf 14 3 = 18 := rfl
        have r4 : rf 14 4 = 19 := rfl
        have r5 : rf 14 5 = 20 := rfl
        have r6 : rf 14 6 = 21 := rfl
        have r7 : E 0 0 + 1 - 1 = E 0 0 := by omega
        simp (disch := omega) only [pn_lt, pn_ltM, pl_ofN, ↓pl_m1, pl_lit, fa_litL, pn_bs, ck_n, ckh_n, ck_t, ckh_t, nI_add, nI_clamp, nI_ltI, nI_leI, nI_eq, m1_eq, m1_eq2, m1_lt, m1_le, m1_lt2, m1_le2, m1_m1, nI_m1, nI_subn, gb_n, Nat.add_zero, Nat.zero_add, Nat.zero_or, Nat.or_zero, nle_f, nle_t, nlt_f, nlt_t, neq_f, neq_t, Bool.false_eq_true, eq_self, if_true, if_false, ite_true, ite_false, and_true, true_and, and_false, false_and, decide_true, decide_false, Bool.and_true, Bool.true_and, Bool.and_false, Bool.false_and, Bool.or_false, Bool.false_or, Bool.or_true, Bool.true_or, Bool.not_true, Bool.not_false, not_true_eq_false, not_false_eq_true, q1, e4, k10, gst_v, r0, r1, r2, r3, r4, r5, r6, r7]
      refine ⟨0, t2, _, C9, addE E (E 0 0) (fun c => [0, kd, l, w, p, 0, a, b, 0].getD c 0), hr.trans hadd, hK, ?_, fun k j hk => ?_, fr9', fun _ => ⟨by omega, ?_, ?_⟩⟩
      · obtain ⟨h8, h9, h4, e8, e9, ep, ht, et, e0⟩ := q3
        have fq : ∀ k j, ¬ (14 ≤ k ∧ k ≤ 21) → (gst (gst (gst (gst (gst (gst (gst (gst C8 15 (E 0 0) (nI kd)) 16 (E 0 0) (nI l)) 17 (E 0 0) (nI w)) 18 (E 0 0) (nI p)) 21 (E 0 0) (nI 0)) 14 10 (nI (E 0 0 + 1))) 19 (E 0 0) (nI a)) 20 (E 0 0) (nI b)) k j = C8 k j := fun k j hk => by
          rw [gst_v, gst_v, gst_v, gst_v, gst_v, gst_v, gst_v, gst_v, if_neg (by omega), if_neg (by omega), if_neg (by omega), if_neg (by omega), if_neg (by omega), if_neg (by omega), if_neg (by omega), if_neg (by omega)]
        refine ⟨⟨?_, fun i hi => ?_⟩, h9, h4, ?_, e9, ?_, ht, ?_, fun q => ?_⟩
        · rw [fq _ _ (by omega)]; exact h8.1
        · rw [fq _ _ (by omega)]; exact h8.2 i hi
        · rw [fq _ _ (by omega)]; exact e8
        · rw [fq _ _ (by omega)]; exact ep
        · rw [fq _ _ (by omega)]; exact et
        · rw [fq _ _ (by omega)]; exact e0 q
      · rw [gst_v, gst_v, gst_v, gst_v, gst_v, gst_v, gst_v, gst_v, if_neg (by omega), if_neg (by omega), if_neg (by omega), if_neg (by omega), if_neg (by omega), if_neg (by omega), if_neg (by omega), if_neg (by omega), q4 _ (by omega), p4 _ (by omega)]
      · obtain ⟨o1, o2, o3, o4, o5, o6, o7, o8⟩ := hE
        have c8 : ∀ k j, k ≠ 25 → C8 k j = M8 k j := fun k j hk => by rw [q4 _ hk, p4 _ hk]
        have c9 : ∀ k j, 98 ≤ k → ¬ (98 ≤ k ∧ k ≤ 104 ∧ j = 10 + E 0 0) → ¬ (k = 108 ∧ j = 4) → C9 k j = M9 k j := fun k j n1 n2 n3 => by rw [g9 _ _ (by omega), p5 k j (by omega) n2 n3]
        refine ⟨?_, ?_, ?_, ?_, ?_, ?_, fun x hx => ?_, fun s hs => ?_⟩
        · rw [addE_00]
          simp (disch := omega) only [pn_lt, pn_ltM, pl_ofN, ↓pl_m1, pl_lit, fa_litL, pn_bs, ck_n, ckh_n, ck_t, ckh_t, nI_add, nI_clamp, nI_ltI, nI_leI, nI_eq, m1_eq, m1_eq2, m1_lt, m1_le, m1_lt2, m1_le2, m1_m1, nI_m1, nI_subn, gb_n, Nat.add_zero, Nat.zero_add, Nat.zero_or, Nat.or_zero, nle_f, nle_t, nlt_f, nlt_t, neq_f, neq_t, Bool.false_eq_true, eq_self, if_true, if_false, ite_true, ite_false, and_true, true_and, and_false, false_and, decide_true, decide_false, Bool.and_true, Bool.true_and, Bool.and_false, Bool.false_and, Bool.or_false, Bool.false_or, Bool.or_true, Bool.true_or, Bool.not_true, Bool.not_false, not_true_eq_false, not_false_eq_true, gst_v]
        · rw [addE_0 (by omega)]
          simp (disch := omega) only [pn_lt, pn_ltM, pl_ofN, ↓pl_m1, pl_lit, fa_litL, pn_bs, ck_n, ckh_n, ck_t, ckh_t, nI_add, nI_clamp, nI_ltI, nI_leI, nI_eq, m1_eq, m1_eq2, m1_lt, m1_le, m1_lt2, m1_le2, m1_m1, nI_m1, nI_subn, gb_n, Nat.add_zero, Nat.zero_add, Nat.zero_or, Nat.or_zero, nle_f, nle_t, nlt_f, nlt_t, neq_f, neq_t, Bool.false_eq_true, eq_self, if_true, if_false, ite_true, ite_false, and_true, true_and, and_false, false_and, decide_true, decide_false, Bool.and_true, Bool.true_and, Bool.and_false, Bool.false_and, Bool.or_false, Bool.false_or, Bool.or_true, Bool.true_or, Bool.not_true, Bool.not_false, not_true_eq_false, not_false_eq_true, gst_v, c8, o2]
        · rw [addE_0 (by omega)]
          simp (disch := omega) only [pn_lt, pn_ltM, pl_ofN, ↓pl_m1, pl_lit, fa_litL, pn_bs, ck_n, ckh_n, ck_t, ckh_t, nI_add, nI_clamp, nI_ltI, nI_leI, nI_eq, m1_eq, m1_eq2, m1_lt, m1_le, m1_lt2, m1_le2, m1_m1, nI_m1, nI_subn, gb_n, Nat.add_zero, Nat.zero_add, Nat.zero_or, Nat.or_zero, nle_f, nle_t, nlt_f, nlt_t, neq_f, neq_t, Bool.false_eq_true, eq_self, if_true, if_false, ite_true, ite_false, and_true, true_and, and_false, false_and, decide_true, decide_false, Bool.and_true, Bool.true_and, Bool.and_false, Bool.false_and, Bool.or_false, Bool.false_or, Bool.or_true, Bool.true_or, Bool.not_true, Bool.not_false, not_true_eq_false, not_false_eq_true, gst_v, c8, o3]
        · rw [addE_00, g9 _ _ (by omega), p6]
        · rw [addE_0 (by omega), c9 _ _ (by omega) (by omega) (by omega), o5]
        · rw [addE_0 (by omega), c9 _ _ (by omega) (by omega) (by omega), o6]
        · rw [addE_00] at hx
          by_cases ex : x = E 0 0
          · subst ex
            rw [addE_new (by omega) (by omega), addE_new (by omega) (by omega), addE_new (by omega) (by omega), addE_new (by omega) (by omega), addE_new (by omega) (by omega), addE_new (by omega) (by omega), addE_new (by omega) (by omega)]
            refine ⟨?_, ?_, ?_, ?_, ?_, ?_, ?_, ?_, ?_, ?_, ?_, ?_, ?_, ?_⟩
            · simp (disch := omega) only [pn_lt, pn_ltM, pl_ofN, ↓pl_m1, pl_lit, fa_litL, pn_bs, ck_n, ckh_n, ck_t, ckh_t, nI_add, nI_clamp, nI_ltI, nI_leI, nI_eq, m1_eq, m1_eq2, m1_lt, m1_le, m1_lt2, m1_le2, m1_m1, nI_m1, nI_subn, gb_n, Nat.add_zero, Nat.zero_add, Nat.zero_or, Nat.or_zero, nle_f, nle_t, nlt_f, nlt_t, neq_f, neq_t, Bool.false_eq_true, eq_self, if_true, if_false, ite_true, ite_false, and_true, true_and, and_false, false_and, decide_true, decide_false, Bool.and_true, Bool.true_and, Bool.and_false, Bool.false_and, Bool.or_false, Bool.false_or, Bool.or_true, Bool.true_or, Bool.not_true, Bool.not_false, not_true_eq_false, not_false_eq_true, gst_v]; rfl
            · simp (disch := omega) only [pn_lt, pn_ltM, pl_ofN, ↓pl_m1, pl_lit, fa_litL, pn_bs, ck_n, ckh_n, ck_t, ckh_t, nI_add, nI_clamp, nI_ltI, nI_leI, nI_eq, m1_eq, m1_eq2, m1_lt, m1_le, m1_lt2, m1_le2, m1_m1, nI_m1, nI_subn, gb_n, Nat.add_zero, Nat.zero_add, Nat.zero_or, Nat.or_zero, nle_f, nle_t, nlt_f, nlt_t, neq_f, neq_t, Bool.false_eq_true, eq_self, if_true, if_false, ite_true, ite_false, and_true, true_and, and_false, false_and, decide_true, decide_false, Bool.and_true, Bool.true_and, Bool.and_false, Bool.false_and, Bool.or_false, Bool.false_or, Bool.or_true, Bool.true_or, Bool.not_true, Bool.not_false, not_true_eq_false, not_false_eq_true, gst_v]; rfl
            · simp (disch := omega) only [pn_lt, pn_ltM, pl_ofN, ↓pl_m1, pl_lit, fa_litL, pn_bs, ck_n, ckh_n, ck_t, ckh_t, nI_add, nI_clamp, nI_ltI, nI_leI, nI_eq, m1_eq, m1_eq2, m1_lt, m1_le, m1_lt2, m1_le2, m1_m1, nI_m1, nI_subn, gb_n, Nat.add_zero, Nat.zero_add, Nat.zero_or, Nat.or_zero, nle_f, nle_t, nlt_f, nlt_t, neq_f, neq_t, Bool.false_eq_true, eq_self, if_true, if_false, ite_true, ite_false, and_true, true_and, and_false, false_and, decide_true, decide_false, Bool.and_true, Bool.true_and, Bool.and_false, Bool.false_and, Bool.or_false, Bool.false_or, Bool.or_true, Bool.true_or, Bool.not_true, Bool.not_false, not_true_eq_false, not_false_eq_true, gst_v]; rfl
            · simp (disch := omega) only [pn_lt, pn_ltM, pl_ofN, ↓pl_m1, pl_lit, fa_litL, pn_bs, ck_n, ckh_n, ck_t, ckh_t, nI_add, nI_clamp, nI_ltI, nI_leI, nI_eq, m1_eq, m1_eq2, m1_lt, m1_le, m1_lt2, m1_le2, m1_m1, nI_m1, nI_subn, gb_n, Nat.add_zero, Nat.zero_add, Nat.zero_or, Nat.or_zero, nle_f, nle_t, nlt_f, nlt_t, neq_f, neq_t, Bool.false_eq_true, eq_self, if_true, if_false, ite_true, ite_false, and_true, true_and, and_false, false_and, decide_true, decide_false, Bool.and_true, Bool.true_and, Bool.and_false, Bool.false_and, Bool.or_false, Bool.false_or, Bool.or_true, Bool.true_or, Bool.not_true, Bool.not_false, not_true_eq_false, not_false_eq_true, gst_v]; rfl
            · simp (disch := omega) only [pn_lt, pn_ltM, pl_ofN, ↓pl_m1, pl_lit, fa_litL, pn_bs, ck_n, ckh_n, ck_t, ckh_t, nI_add, nI_clamp, nI_ltI, nI_leI, nI_eq, m1_eq, m1_eq2, m1_lt, m1_le, m1_lt2, m1_le2, m1_m1, nI_m1, nI_subn, gb_n, Nat.add_zero, Nat.zero_add, Nat.zero_or, Nat.or_zero, nle_f, nle_t, nlt_f, nlt_t, neq_f, neq_t, Bool.false_eq_true, eq_self, if_true, if_false, ite_true, ite_false, and_true, true_and, and_false, false_and, decide_true, decide_false, Bool.and_true, Bool.true_and, Bool.and_false, Bool.false_and, Bool.or_false, Bool.false_or, Bool.or_true, Bool.true_or, Bool.not_true, Bool.not_false, not_true_eq_false, not_false_eq_true, gst_v]; rfl
            · simp (disch := omega) only [pn_lt, pn_ltM, pl_ofN, ↓pl_m1, pl_lit, fa_litL, pn_bs, ck_n, ckh_n, ck_t, ckh_t, nI_add, nI_clamp, nI_ltI, nI_leI, nI_eq, m1_eq, m1_eq2, m1_lt, m1_le, m1_lt2, m1_le2, m1_m1, nI_m1, nI_subn, gb_n, Nat.add_zero, Nat.zero_add, Nat.zero_or, Nat.or_zero, nle_f, nle_t, nlt_f, nlt_t, neq_f, neq_t, Bool.false_eq_true, eq_self, if_true, if_false, ite_true, ite_false, and_true, true_and, and_false, false_and, decide_true, decide_false, Bool.and_true, Bool.true_and, Bool.and_false, Bool.false_and, Bool.or_false, Bool.false_or, Bool.or_true, Bool.true_or, Bool.not_true, Bool.not_false, not_true_eq_false, not_false_eq_true, gst_v]; rfl
            · simp (disch := omega) only [pn_lt, pn_ltM, pl_ofN, ↓pl_m1, pl_lit, fa_litL, pn_bs, ck_n, ckh_n, ck_t, ckh_t, nI_add, nI_clamp, nI_ltI, nI_leI, nI_eq, m1_eq, m1_eq2, m1_lt, m1_le, m1_lt2, m1_le2, m1_m1, nI_m1, nI_subn, gb_n, Nat.add_zero, Nat.zero_add, Nat.zero_or, Nat.or_zero, nle_f, nle_t, nlt_f, nlt_t, neq_f, neq_t, Bool.false_eq_true, eq_self, if_true, if_false, ite_true, ite_false, and_true, true_and, and_false, false_and, decide_true, decide_false, Bool.and_true, Bool.true_and, Bool.and_false, Bool.false_and, Bool.or_false, Bool.false_or, Bool.or_true, Bool.true_or, Bool.not_true, Bool.not_false, not_true_eq_false, not_false_eq_true, gst_v]; rfl
            · rw [g9 _ _ (by omega)]; exact v1
            · rw [g9 _ _ (by omega)]; exact v2
            · rw [g9 _ _ (by omega)]; exact v3
            · rw [g9 _ _ (by omega)]; exact v4
            · rw [g9 _ _ (by omega)]; exact v5
            · rw [g9 _ _ (by omega)]; exact v6
            · rw [g9 _ _ (by omega)]; exact y3
          · obtain ⟨a1, a2, a3, a4, a5, a6, a7, b1, b2, b3, b4, b5, b6, b7⟩ := o7 x (by omega)
            rw [addE_old (by omega) (.inr ex), addE_old (by omega) (.inr ex), addE_old (by omega) (.inr ex), addE_old (by omega) (.inr ex), addE_old (by omega) (.inr ex), addE_old (by omega) (.inr ex), addE_old (by omega) (.inr ex)]
            refine ⟨?_, ?_, ?_, ?_, ?_, ?_, ?_, ?_, ?_, ?_, ?_, ?_, ?_, ?_⟩
            · simp (disch := omega) only [pn_lt, pn_ltM, pl_ofN, ↓pl_m1, pl_lit, fa_litL, pn_bs, ck_n, ckh_n, ck_t, ckh_t, nI_add, nI_clamp, nI_ltI, nI_leI, nI_eq, m1_eq, m1_eq2, m1_lt, m1_le, m1_lt2, m1_le2, m1_m1, nI_m1, nI_subn, gb_n, Nat.add_zero, Nat.zero_add, Nat.zero_or, Nat.or_zero, nle_f, nle_t, nlt_f, nlt_t, neq_f, neq_t, Bool.false_eq_true, eq_self, if_true, if_false, ite_true, ite_false, and_true, true_and, and_false, false_and, decide_true, decide_false, Bool.and_true, Bool.true_and, Bool.and_false, Bool.false_and, Bool.or_false, Bool.false_or, Bool.or_true, Bool.true_or, Bool.not_true, Bool.not_false, not_true_eq_false, not_false_eq_true, gst_v, c8, a1]
            · simp (disch := omega) only [pn_lt, pn_ltM, pl_ofN, ↓pl_m1, pl_lit, fa_litL, pn_bs, ck_n, ckh_n, ck_t, ckh_t, nI_add, nI_clamp, nI_ltI, nI_leI, nI_eq, m1_eq, m1_eq2, m1_lt, m1_le, m1_lt2, m1_le2, m1_m1, nI_m1, nI_subn, gb_n, Nat.add_zero, Nat.zero_add, Nat.zero_or, Nat.or_zero, nle_f, nle_t, nlt_f, nlt_t, neq_f, neq_t, Bool.false_eq_true, eq_self, if_true, if_false, ite_true, ite_false, and_true, true_and, and_false, false_and, decide_true, decide_false, Bool.and_true, Bool.true_and, Bool.and_false, Bool.false_and, Bool.or_false, Bool.false_or, Bool.or_true, Bool.true_or, Bool.not_true, Bool.not_false, not_true_eq_false, not_false_eq_true, gst_v, c8, a2]
            · simp (disch := omega) only [pn_lt, pn_ltM, pl_ofN, ↓pl_m1, pl_lit, fa_litL, pn_bs, ck_n, ckh_n, ck_t, ckh_t, nI_add, nI_clamp, nI_ltI, nI_leI, nI_eq, m1_eq, m1_eq2, m1_lt, m1_le, m1_lt2, m1_le2, m1_m1, nI_m1, nI_subn, gb_n, Nat.add_zero, Nat.zero_add, Nat.zero_or, Nat.or_zero, nle_f, nle_t, nlt_f, nlt_t, neq_f, neq_t, Bool.false_eq_true, eq_self, if_true, if_false, ite_true, ite_false, and_true, true_and, and_false, false_and, decide_true, decide_false, Bool.and_true, Bool.true_and, Bool.and_false, Bool.false_and, Bool.or_false, Bool.false_or, Bool.or_true, Bool.true_or, Bool.not_true, Bool.not_false, not_true_eq_false, not_false_eq_true, gst_v, c8, a3]
            · simp (disch := omega) only [pn_lt, pn_ltM, pl_ofN, ↓pl_m1, pl_lit, fa_litL, pn_bs, ck_n, ckh_n, ck_t, ckh_t, nI_add, nI_clamp, nI_ltI, nI_leI, nI_eq, m1_eq, m1_eq2, m1_lt, m1_le, m1_lt2, m1_le2, m1_m1, nI_m1, nI_subn, gb_n, Nat.add_zero, Nat.zero_add, Nat.zero_or, Nat.or_zero, nle_f, nle_t, nlt_f, nlt_t, neq_f, neq_t, Bool.false_eq_true, eq_self, if_true, if_false, ite_true, ite_false, and_true, true_and, and_false, false_and, decide_true, decide_false, Bool.and_true, Bool.true_and, Bool.and_false, Bool.false_and, Bool.or_false, Bool.false_or, Bool.or_true, Bool.true_or, Bool.not_true, Bool.not_false, not_true_eq_false, not_false_eq_true, gst_v, c8, a4]
            · simp (disch := omega) only [pn_lt, pn_ltM, pl_ofN, ↓pl_m1, pl_lit, fa_litL, pn_bs, ck_n, ckh_n, ck_t, ckh_t, nI_add, nI_clamp, nI_ltI, nI_leI, nI_eq, m1_eq, m1_eq2, m1_lt, m1_le, m1_lt2, m1_le2, m1_m1, nI_m1, nI_subn, gb_n, Nat.add_zero, Nat.zero_add, Nat.zero_or, Nat.or_zero, nle_f, nle_t, nlt_f, nlt_t, neq_f, neq_t, Bool.false_eq_true, eq_self, if_true, if_false, ite_true, ite_false, and_true, true_and, and_false, false_and, decide_true, decide_false, Bool.and_true, Bool.true_and, Bool.and_false, Bool.false_and, Bool.or_false, Bool.false_or, Bool.or_true, Bool.true_or, Bool.not_true, Bool.not_false, not_true_eq_false, not_false_eq_true, gst_v, c8, a5]
            · simp (disch := omega) only [pn_lt, pn_ltM, pl_ofN, ↓pl_m1, pl_lit, fa_litL, pn_bs, ck_n, ckh_n, ck_t, ckh_t, nI_add, nI_clamp, nI_ltI, nI_leI, nI_eq, m1_eq, m1_eq2, m1_lt, m1_le, m1_lt2, m1_le2, m1_m1, nI_m1, nI_subn, gb_n, Nat.add_zero, Nat.zero_add, Nat.zero_or, Nat.or_zero, nle_f, nle_t, nlt_f, nlt_t, neq_f, neq_t, Bool.false_eq_true, eq_self, if_true, if_false, ite_true, ite_false, and_true, true_and, and_false, false_and, decide_true, decide_false, Bool.and_true, Bool.true_and, Bool.and_false, Bool.false_and, Bool.or_false, Bool.false_or, Bool.or_true, Bool.true_or, Bool.not_true, Bool.not_false, not_true_eq_false, not_false_eq_true, gst_v, c8, a6]
            · simp (disch := omega) only [pn_lt, pn_ltM, pl_ofN, ↓pl_m1, pl_lit, fa_litL, pn_bs, ck_n, ckh_n, ck_t, ckh_t, nI_add, nI_clamp, nI_ltI, nI_leI, nI_eq, m1_eq, m1_eq2, m1_lt, m1_le, m1_lt2, m1_le2, m1_m1, nI_m1, nI_subn, gb_n, Nat.add_zero, Nat.zero_add, Nat.zero_or, Nat.or_zero, nle_f, nle_t, nlt_f, nlt_t, neq_f, neq_t, Bool.false_eq_true, eq_self, if_true, if_false, ite_true, ite_false, and_true, true_and, and_false, false_and, decide_true, decide_false, Bool.and_true, Bool.true_and, Bool.and_false, Bool.false_and, Bool.or_false, Bool.false_or, Bool.or_true, Bool.true_or, Bool.not_true, Bool.not_false, not_true_eq_false, not_false_eq_true, gst_v, c8, a7]
            · rw [c9 _ _ (by omega) (by omega) (by omega)]; exact b1
            · rw [c9 _ _ (by omega) (by omega) (by omega)]; exact b2
            · rw [c9 _ _ (by omega) (by omega) (by omega)]; exact b3
            · rw [c9 _ _ (by omega) (by omega) (by omega)]; exact b4
            · rw [c9 _ _ (by omega) (by omega) (by omega)]; exact b5
            · rw [c9 _ _ (by omega) (by omega) (by omega)]; exact b6
            · rw [c9 _ _ (by omega) (by omega) (by omega)]; exact b7
        · rw [addE_0 (by omega)] at hs
          obtain ⟨a1, a2, a3, b1, b2, b3⟩ := o8 s hs
          rw [addE_old (by omega) (.inl (by omega)), addE_old (by omega) (.inl (by omega)), addE_old (by omega) (.inl (by omega))]
          refine ⟨?_, ?_, ?_, ?_, ?_, ?_⟩
          · simp (disch := omega) only [pn_lt, pn_ltM, pl_ofN, ↓pl_m1, pl_lit, fa_litL, pn_bs, ck_n, ckh_n, ck_t, ckh_t, nI_add, nI_clamp, nI_ltI, nI_leI, nI_eq, m1_eq, m1_eq2, m1_lt, m1_le, m1_lt2, m1_le2, m1_m1, nI_m1, nI_subn, gb_n, Nat.add_zero, Nat.zero_add, Nat.zero_or, Nat.or_zero, nle_f, nle_t, nlt_f, nlt_t, neq_f, neq_t, Bool.false_eq_true, eq_self, if_true, if_false, ite_true, ite_false, and_true, true_and, and_false, false_and, decide_true, decide_false, Bool.and_true, Bool.true_and, Bool.and_false, Bool.false_and, Bool.or_false, Bool.false_or, Bool.or_true, Bool.true_or, Bool.not_true, Bool.not_false, not_true_eq_false, not_false_eq_true, gst_v, c8, a1]
          · simp (disch := omega) only [pn_lt, pn_ltM, pl_ofN, ↓pl_m1, pl_lit, fa_litL, pn_bs, ck_n, ckh_n, ck_t, ckh_t, nI_add, nI_clamp, nI_ltI, nI_leI, nI_eq, m1_eq, m1_eq2, m1_lt, m1_le, m1_lt2, m1_le2, m1_m1, nI_m1, nI_subn, gb_n, Nat.add_zero, Nat.zero_add, Nat.zero_or, Nat.or_zero, nle_f, nle_t, nlt_f, nlt_t, neq_f, neq_t, Bool.false_eq_true, eq_self, if_true, if_false, ite_true, ite_false, and_true, true_and, and_false, false_and, decide_true, decide_false, Bool.and_true, Bool.true_and, Bool.and_false, Bool.false_and, Bool.or_false, Bool.false_or, Bool.or_true, Bool.true_or, Bool.not_true, Bool.not_false, not_true_eq_false, not_false_eq_true, gst_v, c8, a2]
          · simp (disch := omega) only [pn_lt, pn_ltM, pl_ofN, ↓pl_m1, pl_lit, fa_litL, pn_bs, ck_n, ckh_n, ck_t, ckh_t, nI_add, nI_clamp, nI_ltI, nI_leI, nI_eq, m1_eq, m1_eq2, m1_lt, m1_le, m1_lt2, m1_le2, m1_m1, nI_m1, nI_subn, gb_n, Nat.add_zero, Nat.zero_add, Nat.zero_or, Nat.or_zero, nle_f, nle_t, nlt_f, nlt_t, neq_f, neq_t, Bool.false_eq_true, eq_self, if_true, if_false, ite_true, ite_false, and_true, true_and, and_false, false_and, decide_true, decide_false, Bool.and_true, Bool.true_and, Bool.and_false, Bool.false_and, Bool.or_false, Bool.false_or, Bool.or_true, Bool.true_or, Bool.not_true, Bool.not_false, not_true_eq_false, not_false_eq_true, gst_v, c8, a3]
          · rw [c9 _ _ (by omega) (by omega) (by omega)]; exact b1
          · rw [c9 _ _ (by omega) (by omega) (by omega)]; exact b2
          · rw [c9 _ _ (by omega) (by omega) (by omega)]; exact b3
      · exact zB_add hB c z1 z2 z3 z4 z5 z6 rfl
    · refine ⟨fn2, t2, C8, C9, E, ?_, hK, q3, fun k j hk => by rw [q4 _ (by omega), p4 _ (by omega)], fr9', fun q => absurd q cf⟩
      rw [hr]
      unfold f_X3_readPart_b79
      simp (disch := omega) only [pn_lt, pn_ltM, pl_ofN, ↓pl_m1, pl_lit, fa_litL, pn_bs, ck_n, ckh_n, ck_t, ckh_t, nI_add, nI_clamp, nI_ltI, nI_leI, nI_eq, m1_eq, m1_eq2, m1_lt, m1_le, m1_lt2, m1_le2, m1_m1, nI_m1, nI_subn, gb_n, Nat.add_zero, Nat.zero_add, Nat.zero_or, Nat.or_zero, nle_f, nle_t, nlt_f, nlt_t, neq_f, neq_t, Bool.false_eq_true, eq_self, if_true, if_false, ite_true, ite_false, and_true, true_and, and_false, false_and, decide_true, decide_false, Bool.and_true, Bool.true_and, Bool.and_false, Bool.false_and, Bool.or_false, Bool.false_or, Bool.or_true, Bool.true_or, Bool.not_true, Bool.not_false, not_true_eq_false, not_false_eq_true, q1, e4]
  · obtain ⟨fn', A8, A9, a1, a2, a3, a4, a5, a6⟩ := z_many hz
    have g9 := fr9_s a5
    refine ⟨fn', t, A8, A9, E, ?_, fun K => ?_, a3, fun k j hk => by rw [a4 _ (by omega)], fun k j n1 _ _ _ => g9 _ _ n1, fun q => absurd q a6⟩
    · have hkd : f_X3_readKind F A8 = some (nI 0, A8) := by
        have e8 : A8 25 4 = nI fn' := a3.2.2.2.1
        have f4 := a3.2.2.1
        unfold f_X3_readKind
        simp (disch := omega) only [pn_lt, pn_ltM, pl_ofN, ↓pl_m1, pl_lit, fa_litL, pn_bs, ck_n, ckh_n, ck_t, ckh_t, nI_add, nI_clamp, nI_ltI, nI_leI, nI_eq, m1_eq, m1_eq2, m1_lt, m1_le, m1_lt2, m1_le2, m1_m1, nI_m1, nI_subn, gb_n, Nat.add_zero, Nat.zero_add, Nat.zero_or, Nat.or_zero, nle_f, nle_t, nlt_f, nlt_t, neq_f, neq_t, Bool.false_eq_true, eq_self, if_true, if_false, ite_true, ite_false, and_true, true_and, and_false, false_and, decide_true, decide_false, Bool.and_true, Bool.true_and, Bool.and_false, Bool.false_and, Bool.or_false, Bool.false_or, Bool.or_true, Bool.true_or, Bool.not_true, Bool.not_false, not_true_eq_false, not_false_eq_true, e8]
      have e8 : A8 25 4 = nI fn' := a3.2.2.2.1
      have f4 := a3.2.2.1
      have hnum := fun a => z_flt_num (F := F) a3 a6 a
      have hend := z_flt_end (F := F) a3 a6
      unfold f_X3_readPart f_X3_readPart_b21 f_X3_readPart_b79
      rw [h10, if_neg (by rw [show (10 : Int32) = nI 10 from rfl, nI_ltI (by omega) (by omega)]; exact c), a1, pn_bs]
      simp (disch := omega) only [pn_lt, pn_ltM, pl_ofN, ↓pl_m1, pl_lit, fa_litL, pn_bs, ck_n, ckh_n, ck_t, ckh_t, nI_add, nI_clamp, nI_ltI, nI_leI, nI_eq, m1_eq, m1_eq2, m1_lt, m1_le, m1_lt2, m1_le2, m1_m1, nI_m1, nI_subn, gb_n, Nat.add_zero, Nat.zero_add, Nat.zero_or, Nat.or_zero, nle_f, nle_t, nlt_f, nlt_t, neq_f, neq_t, Bool.false_eq_true, eq_self, if_true, if_false, ite_true, ite_false, and_true, true_and, and_false, false_and, decide_true, decide_false, Bool.and_true, Bool.true_and, Bool.and_false, Bool.false_and, Bool.or_false, Bool.false_or, Bool.or_true, Bool.true_or, Bool.not_true, Bool.not_false, not_true_eq_false, not_false_eq_true, hkd, hnum, hend, e8]
    · show (f_X9_takeClause_b43 F (M9 95 16) _ M9).bind (tlK F K) = _
      rw [h108, if_pos (by rw [show (10 : Int32) = nI 10 from rfl, nI_leI (by omega) (by omega)]; omega)]
      unfold f_X9_takeClause_b43
      rw [a2, pn_bs, if_pos rfl, pn_bs, z_flt_K a3 a6]
end EV
