/-! whole clauses: clash -/
theorem ct_set {a b n : Nat} (h : a.testBit b = false) (hb : b < n) : fb_ct (fun q => (a ||| 2 ^ b).testBit q) n = fb_ct (fun q => a.testBit q) n + 1 := by
  have e := fb_ct_upd (fun q => a.testBit q) true hb
  rw [h] at e
  have e2 : fb_ct (fun q => (a ||| 2 ^ b).testBit q) n = fb_ct (fun k => if k = b then true else a.testBit k) n := fb_ct_cong (fun k _ => by
    rw [fb_bit_set]
    by_cases q : k = b
    · rw [if_pos q, decide_eq_true q, Bool.or_true]
    · rw [if_neg q, decide_eq_false q, Bool.or_false])
  rw [e2]
  simp only [Bool.false_eq_true, if_false, if_true, Nat.add_zero] at e
  exact e
/-- a town with one clash more, of x and y -/
def clE (E : Nat → Nat → Nat) (x y : Nat) : Nat → Nat → Nat := fun c i => if c = 0 then (if i = 2 then E 0 2 + 1 else E 0 i) else if c = 8 then (if i = y then E 8 y ||| 2 ^ x else if i = x then E 8 x ||| 2 ^ y else E 8 i) else E c i
theorem clE_old {E : Nat → Nat → Nat} {x y c i : Nat} (hc : c ≠ 0) (h : c ≠ 8) : clE E x y c i = E c i := by
  unfold clE
  rw [if_neg hc, if_neg h]
theorem clE_8 (E : Nat → Nat → Nat) (x y i : Nat) : clE E x y 8 i = if i = y then E 8 y ||| 2 ^ x else if i = x then E 8 x ||| 2 ^ y else E 8 i := rfl
theorem clE_02 (E : Nat → Nat → Nat) (x y : Nat) : clE E x y 0 2 = E 0 2 + 1 := rfl
theorem clE_0 {E : Nat → Nat → Nat} {x y i : Nat} (h : i ≠ 2) : clE E x y 0 i = E 0 i := by
  unfold clE
  rw [if_pos rfl, if_neg h]
theorem zB_cl {E : Nat → Nat → Nat} (h : zB E) (hn : E 0 2 < 15) {x y : Nat} (hx : x < E 0 0) (hy : y < E 0 0) (hxy : x ≠ y) (hb : (E 8 x).testBit y = false) : zB (clE E x y) := by
  obtain ⟨⟨b1, b2, b3, b4, b5, b6⟩, b7, b8⟩ := h
  have hb2 : (E 8 y).testBit x = false := by rw [b8 y x hy hx]; exact hb
  have px : 2 ^ x < 2 ^ E 0 0 := Nat.pow_lt_pow_right (by omega) hx
  have py : 2 ^ y < 2 ^ E 0 0 := Nat.pow_lt_pow_right (by omega) hy
  refine ⟨⟨?_, ?_, ?_, ?_, ?_, ?_⟩, ?_, ?_⟩
  · rw [clE_0 (by omega)]; exact b1
  · rw [clE_0 (by omega)]; exact b2
  · rw [clE_02]; omega
  · rw [clE_0 (by omega)]
    intro p hp
    obtain ⟨c1, c2, c3, c4, c5⟩ := b4 p hp
    rw [clE_old (by omega) (by omega), clE_old (by omega) (by omega), clE_old (by omega) (by omega), clE_old (by omega) (by omega), clE_8]
    refine ⟨c1, c2, c3, c4, ?_⟩
    by_cases e : p = y
    · rw [if_pos e]
      exact Nat.or_lt_two_pow (b4 y hy).2.2.2.2 px
    · by_cases e2 : p = x
      · rw [if_neg e, if_pos e2]
        exact Nat.or_lt_two_pow (b4 x hx).2.2.2.2 py
      · rw [if_neg e, if_neg e2]; exact c5
  · rw [clE_0 (by omega)]
    intro s hs
    rw [clE_old (by omega) (by omega), clE_old (by omega) (by omega), clE_old (by omega) (by omega)]
    exact b5 s hs
  · rw [clE_0 (by omega), clE_02]
    have u1 := fb_sm_upd (fun p => fb_ct (fun q => (E 8 p).testBit q) 28) (fb_ct (fun q => (E 8 x ||| 2 ^ y).testBit q) 28) hx
    have u2 := fb_sm_upd (fun k => if k = x then fb_ct (fun q => (E 8 x ||| 2 ^ y).testBit q) 28 else fb_ct (fun q => (E 8 k).testBit q) 28) (fb_ct (fun q => (E 8 y ||| 2 ^ x).testBit q) 28) hy
    rw [if_neg (fun q => hxy q.symm)] at u2
    have c1 := ct_set (n := 28) hb (by omega)
    have c2 := ct_set (n := 28) hb2 (by omega)
    have e : fb_sm (fun p => fb_ct (fun q => (clE E x y 8 p).testBit q) 28) (E 0 0) = fb_sm (fun k => if k = y then fb_ct (fun q => (E 8 y ||| 2 ^ x).testBit q) 28 else if k = x then fb_ct (fun q => (E 8 x ||| 2 ^ y).testBit q) 28 else fb_ct (fun q => (E 8 k).testBit q) 28) (E 0 0) := fb_sm_cong (fun k _ => by
      rw [clE_8]
      by_cases e : k = y
      · rw [if_pos e, if_pos e]
      · by_cases e2 : k = x
        · rw [if_neg e, if_pos e2, if_neg e, if_pos e2]
        · rw [if_neg e, if_neg e2, if_neg e, if_neg e2])
    rw [e]
    omega
  · rw [clE_0 (by omega)]
    intro p hp
    rw [clE_old (by omega) (by omega), clE_old (by omega) (by omega)]
    exact b7 p hp
  · rw [clE_0 (by omega)]
    intro p q hp hq
    have key : ∀ i j, i < E 0 0 → (clE E x y 8 i).testBit j = ((E 8 i).testBit j || (decide (i = x ∧ j = y) || decide (i = y ∧ j = x))) := by
      intro i j hi
      rw [clE_8]
      by_cases e : i = y
      · have e3 : ¬ i = x := by omega
        rw [if_pos e, fb_bit_set, e]
        have e4 : ¬ y = x := by omega
        simp [e4]
      · by_cases e2 : i = x
        · rw [if_neg e, if_pos e2, fb_bit_set, e2]
          simp [hxy]
        · rw [if_neg e, if_neg e2]
          simp [e, e2]
    rw [key p q hp, key q p hq, b8 p q hp hq]
    congr 1
    rw [Bool.or_comm]
    congr 1
    · exact decide_eq_decide.mpr ⟨fun z => ⟨z.2, z.1⟩, fun z => ⟨z.2, z.1⟩⟩
    · exact decide_eq_decide.mpr ⟨fun z => ⟨z.2, z.1⟩, fun z => ⟨z.2, z.1⟩⟩
section EV
variable {T : Nat → Nat} {tl F : Nat} {M8 M9 : gM}
theorem zc_clash (hF : 4000 ≤ F) (hb : xTb T tl) {t : Nat} {E : Nat → Nat → Nat} (hz : zR T tl M8 M9 0 t) (hE : zE E M8 M9) (hB : zB E) :
    zCR T tl t M8 M9 (f_X3_readClash F M8) (fun K => (f_X9_takeClause_b93 F (M9 95 16) (if (15 : Int32) ≤ M9 108 5 then 0 else 1) M9).bind (tlK F K)) := by
  have hn := hB.1.2.2.1
  have hn0 := hB.1.1
  have h11 := hE.2.1
  have h108 := hE.2.2.2.2.1
  by_cases c : E 0 2 < 15
  · obtain ⟨fn', t', x1, x2, B8, B9, p1, p2, p3, p4, p5, p7⟩ := z_takeClash (cl := E 8) hF hb hz hn0 c hE.1 hE.2.2.2.1 h108 (fun p hp => ⟨(hE.2.2.2.2.2.2.1 p hp).2.2.2.2.2.2.1, (hE.2.2.2.2.2.2.1 p hp).2.2.2.2.2.2.2.2.2.2.2.2.2, (hB.1.2.2.2.1 p hp).2.2.2.2⟩)
    obtain ⟨fn2, t2, C8, C9, q1, q2, q3, q4, q5, q6⟩ := z_end hF hb p3
    have g9 := fr9_s q5
    have hr : f_X3_readClash F M8 = f_X3_readClash_b75 F x1 x2 B8 := by
      unfold f_X3_readClash
      rw [h11, if_pos (by rw [show (15 : Int32) = nI 15 from rfl, nI_ltI (by omega) (by omega)]; exact c), p1]
    have hK : ∀ K, (f_X9_takeClause_b93 F (M9 95 16) (if (15 : Int32) ≤ M9 108 5 then 0 else 1) M9).bind (tlK F K) = K C9 := by
      intro K
      rw [h108, if_neg (by rw [show (15 : Int32) = nI 15 from rfl, nI_leI (by omega) (by omega)]; omega)]
      unfold f_X9_takeClause_b93
      have ew := e9_want_1 (M := M9) (w := M9 95 16) (n := 3) hz.2.2.2.2.1
      rw [show (1 : Int32) = nI 1 from rfl, ew, pn_bs, if_neg (by show ¬ nI 1 = nI 0; decide), p2, pn_bs, pn_bs]
      exact q2 K
    have e4 : C8 25 4 = nI fn2 := q3.2.2.2.1
    have fn4 := q3.2.2.1
    have fr9' : ∀ k j, ¬ (k = 95 ∧ 15 ≤ j ∧ j ≤ 19) → ¬ (98 ≤ k ∧ k ≤ 104 ∧ 10 ≤ j) → ¬ (105 ≤ k ∧ k ≤ 107 ∧ 8 ≤ j) → ¬ (k = 108 ∧ 4 ≤ j) → C9 k j = M9 k j := fun k j n1 n2 n3 n4 => by rw [g9 _ _ n1, p5 k j n1 (by omega) (by omega)]
    by_cases cf : fn2 = 0
    · subst cf
      obtain ⟨y0, y1⟩ := q6 rfl
      obtain ⟨-, y2, x, y, hx, hy, hxy, hbit, u1, u2, v1, v2⟩ := p7 y0
      subst u1; subst u2
      obtain ⟨o1, o2, o3, o4, o5, o6, o7, o8⟩ := hE
      have c8 : ∀ k j, k ≠ 25 → C8 k j = M8 k j := fun k j hk => by rw [q4 _ hk, p4 _ hk]
      have c9 : ∀ k j, 98 ≤ k → k ≠ 104 → ¬ (k = 108 ∧ j = 5) → C9 k j = M9 k j := fun k j n1 n2 n3 => by rw [g9 _ _ (by omega), p5 k j (by omega) (by omega) n3]
      have k10 : C8 14 10 = nI (E 0 0) := by rw [c8 _ _ (by omega), o1]
      have k11 : C8 14 11 = nI (E 0 2) := by rw [c8 _ _ (by omega), o2]
      have kx : C8 21 x = nI (E 8 x) := by rw [c8 _ _ (by omega)]; exact (o7 x hx).2.2.2.2.2.2.1
      have ky : C8 21 y = nI (E 8 y) := by rw [c8 _ _ (by omega)]; exact (o7 y hy).2.2.2.2.2.2.1
      have hyx : ¬ y = x := fun q => hxy q.symm
      have hadd : f_X3_readClash_b75 F (nI x) (nI y) B8 = some (gst (gst (gst C8 21 x (nI (E 8 x ||| 2 ^ y))) 21 y (nI (E 8 y ||| 2 ^ x))) 14 11 (nI (E 0 2 + 1))) := by
        unfold f_X3_readClash_b75 f_X7_addClash f_X7_hasPart
        have r6 : rf 14 6 = 21 := rfl
        simp (disch := omega) only [pn_lt, pn_ltM, pl_ofN, ↓pl_m1, pl_lit, fa_litL, pn_bs, ck_n, ckh_n, ck_t, ckh_t, nI_add, nI_clamp, nI_ltI, nI_leI, nI_eq, m1_eq, m1_eq2, m1_lt, m1_le, m1_lt2, m1_le2, m1_m1, nI_m1, nI_subn, gb_n, Nat.add_zero, Nat.zero_add, Nat.zero_or, Nat.or_zero, nle_f, nle_t, nlt_f, nlt_t, neq_f, neq_t, Bool.false_eq_true, eq_self, if_true, if_false, ite_true, ite_false, and_true, true_and, and_false, false_and, decide_true, decide_false, Bool.and_true, Bool.true_and, Bool.and_false, Bool.false_and, Bool.or_false, Bool.false_or, Bool.or_true, Bool.true_or, Bool.not_true, Bool.not_false, not_true_eq_false, not_false_eq_true, q1, e4, k10, gst_v, r6, kx, ky, k11, nI_shl', pl_or]
      have fq : ∀ k j, ¬ (k = 14 ∧ j = 11) → ¬ (k = 21) → (gst (gst (gst C8 21 x (nI (E 8 x ||| 2 ^ y))) 21 y (nI (E 8 y ||| 2 ^ x))) 14 11 (nI (E 0 2 + 1))) k j = C8 k j := fun k j h1 h2 => by
          rw [gst_v, gst_v, gst_v, if_neg (by omega), if_neg (by omega), if_neg (by omega)]
      refine ⟨0, t2, _, C9, clE E x y, hr.trans hadd, hK, ?_, fun k j hk => ?_, fr9', fun _ => ⟨by omega, ?_, ?_⟩⟩
      · obtain ⟨h8, h9, h4, e8, e9, ep, ht, et, e0⟩ := q3
        refine ⟨⟨?_, fun i hi => ?_⟩, h9, h4, ?_, e9, ?_, ht, ?_, fun q => ?_⟩
        · rw [fq _ _ (by omega) (by omega)]; exact h8.1
        · rw [fq _ _ (by omega) (by omega)]; exact h8.2 i hi
        · rw [fq _ _ (by omega) (by omega)]; exact e8
        · rw [fq _ _ (by omega) (by omega)]; exact ep
        · rw [fq _ _ (by omega) (by omega)]; exact et
        · rw [fq _ _ (by omega) (by omega)]; exact e0 q
      · rw [fq _ _ (by omega) (by omega), q4 _ (by omega), p4 _ (by omega)]
      · have c8q : ∀ k j, k ≠ 25 → ¬ (k = 14 ∧ j = 11) → ¬ (k = 21) → (gst (gst (gst C8 21 x (nI (E 8 x ||| 2 ^ y))) 21 y (nI (E 8 y ||| 2 ^ x))) 14 11 (nI (E 0 2 + 1))) k j = M8 k j := fun k j h0 h1 h2 => by rw [fq k j h1 h2, c8 k j h0]
        refine ⟨?_, ?_, ?_, ?_, ?_, ?_, fun z hz => ?_, fun s hs => ?_⟩
        · rw [clE_0 (by omega), c8q _ _ (by omega) (by omega) (by omega), o1]
        · rw [clE_02, gst_v, if_pos ⟨rfl, rfl⟩]
        · rw [clE_0 (by omega), c8q _ _ (by omega) (by omega) (by omega), o3]
        · rw [clE_0 (by omega), c9 _ _ (by omega) (by omega) (by omega), o4]
        · rw [clE_02, g9 _ _ (by omega), v1]
        · rw [clE_0 (by omega), c9 _ _ (by omega) (by omega) (by omega), o6]
        · rw [clE_0 (by omega)] at hz
          obtain ⟨a1, a2, a3, a4, a5, a6, a7, b1, b2, b3, b4, b5, b6, b7⟩ := o7 z hz
          rw [clE_old (by omega) (by omega), clE_old (by omega) (by omega), clE_old (by omega) (by omega), clE_old (by omega) (by omega), clE_old (by omega) (by omega), clE_old (by omega) (by omega), clE_8]
          refine ⟨?_, ?_, ?_, ?_, ?_, ?_, ?_, ?_, ?_, ?_, ?_, ?_, ?_, ?_⟩
          · rw [c8q _ _ (by omega) (by omega) (by omega)]; exact a1
          · rw [c8q _ _ (by omega) (by omega) (by omega)]; exact a2
          · rw [c8q _ _ (by omega) (by omega) (by omega)]; exact a3
          · rw [c8q _ _ (by omega) (by omega) (by omega)]; exact a4
          · rw [c8q _ _ (by omega) (by omega) (by omega)]; exact a5
          · rw [c8q _ _ (by omega) (by omega) (by omega)]; exact a6
          · rw [gst_v, if_neg (by omega), gst_v]
            by_cases e : z = y
            · rw [if_pos ⟨rfl, e⟩, if_pos e]
            · rw [if_neg (fun q => e q.2), if_neg e, gst_v]
              by_cases e2 : z = x
              · rw [if_pos ⟨rfl, e2⟩, if_pos e2]
              · rw [if_neg (fun q => e2 q.2), if_neg e2, c8 _ _ (by omega)]; exact a7
          · rw [c9 _ _ (by omega) (by omega) (by omega)]; exact b1
          · rw [c9 _ _ (by omega) (by omega) (by omega)]; exact b2
          · rw [c9 _ _ (by omega) (by omega) (by omega)]; exact b3
          · rw [c9 _ _ (by omega) (by omega) (by omega)]; exact b4
          · rw [c9 _ _ (by omega) (by omega) (by omega)]; exact b5
          · rw [c9 _ _ (by omega) (by omega) (by omega)]; exact b6
          · rw [g9 _ _ (by omega)]; exact v2 z hz
        · rw [clE_0 (by omega)] at hs
          obtain ⟨a1, a2, a3, b1, b2, b3⟩ := o8 s hs
          rw [clE_old (by omega) (by omega), clE_old (by omega) (by omega), clE_old (by omega) (by omega)]
          refine ⟨?_, ?_, ?_, ?_, ?_, ?_⟩
          · rw [c8q _ _ (by omega) (by omega) (by omega)]; exact a1
          · rw [c8q _ _ (by omega) (by omega) (by omega)]; exact a2
          · rw [c8q _ _ (by omega) (by omega) (by omega)]; exact a3
          · rw [c9 _ _ (by omega) (by omega) (by omega)]; exact b1
          · rw [c9 _ _ (by omega) (by omega) (by omega)]; exact b2
          · rw [c9 _ _ (by omega) (by omega) (by omega)]; exact b3
      · exact zB_cl hB c hx hy hxy hbit
    · refine ⟨fn2, t2, C8, C9, E, ?_, hK, q3, fun k j hk => by rw [q4 _ (by omega), p4 _ (by omega)], fr9', fun q => absurd q cf⟩
      rw [hr]
      unfold f_X3_readClash_b75
      simp (disch := omega) only [pn_lt, pn_ltM, pl_ofN, ↓pl_m1, pl_lit, fa_litL, pn_bs, ck_n, ckh_n, ck_t, ckh_t, nI_add, nI_clamp, nI_ltI, nI_leI, nI_eq, m1_eq, m1_eq2, m1_lt, m1_le, m1_lt2, m1_le2, m1_m1, nI_m1, nI_subn, gb_n, Nat.add_zero, Nat.zero_add, Nat.zero_or, Nat.or_zero, nle_f, nle_t, nlt_f, nlt_t, neq_f, neq_t, Bool.false_eq_true, eq_self, if_true, if_false, ite_true, ite_false, and_true, true_and, and_false, false_and, decide_true, decide_false, Bool.and_true, Bool.true_and, Bool.and_false, Bool.false_and, Bool.or_false, Bool.false_or, Bool.or_true, Bool.true_or, Bool.not_true, Bool.not_false, not_true_eq_false, not_false_eq_true, q1, e4]
  · obtain ⟨fn', A8, A9, a1, a2, a3, a4, a5, a6⟩ := z_many hz
    have g9 := fr9_s a5
    refine ⟨fn', t, A8, A9, E, ?_, fun K => ?_, a3, fun k j hk => by rw [a4 _ (by omega)], fun k j n1 _ _ _ => g9 _ _ n1, fun q => absurd q a6⟩
    · have e8 : A8 25 4 = nI fn' := a3.2.2.2.1
      have f4 := a3.2.2.1
      have hnum := fun a => z_flt_num (F := F) a3 a6 a
      have hend := z_flt_end (F := F) a3 a6
      have hfl := fun n w => z_fail8 a3 a6 n w
      unfold f_X3_readClash f_X3_readClash_b21 f_X3_readClash_b66 f_X3_readClash_b75
      rw [h11, if_neg (by rw [show (15 : Int32) = nI 15 from rfl, nI_ltI (by omega) (by omega)]; exact c), a1, pn_bs]
      simp (disch := omega) only [pn_lt, pn_ltM, pl_ofN, ↓pl_m1, pl_lit, fa_litL, pn_bs, ck_n, ckh_n, ck_t, ckh_t, nI_add, nI_clamp, nI_ltI, nI_leI, nI_eq, m1_eq, m1_eq2, m1_lt, m1_le, m1_lt2, m1_le2, m1_m1, nI_m1, nI_subn, gb_n, Nat.add_zero, Nat.zero_add, Nat.zero_or, Nat.or_zero, nle_f, nle_t, nlt_f, nlt_t, neq_f, neq_t, Bool.false_eq_true, eq_self, if_true, if_false, ite_true, ite_false, and_true, true_and, and_false, false_and, decide_true, decide_false, Bool.and_true, Bool.true_and, Bool.and_false, Bool.false_and, Bool.or_false, Bool.false_or, Bool.or_true, Bool.true_or, Bool.not_true, Bool.not_false, not_true_eq_false, not_false_eq_true, hnum, hend, hfl, e8]
    · show (f_X9_takeClause_b93 F (M9 95 16) _ M9).bind (tlK F K) = _
      rw [h108, if_pos (by rw [show (15 : Int32) = nI 15 from rfl, nI_leI (by omega) (by omega)]; omega)]
      unfold f_X9_takeClause_b93
      rw [a2, pn_bs, if_pos rfl, pn_bs, z_flt_K a3 a6]
end EV
