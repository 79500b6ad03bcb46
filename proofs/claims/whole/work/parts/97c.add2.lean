/-! whole clauses: scene, clash -/
/-- a town with one scene more, its row nv (9, 10, 11) -/
def adsE (E : Nat → Nat → Nat) (n : Nat) (nv : Nat → Nat) : Nat → Nat → Nat := fun c i => if c = 0 then (if i = 1 then n + 1 else E 0 i) else if 9 ≤ c ∧ c ≤ 11 ∧ i = n then nv c else E c i
theorem adsE_old {E : Nat → Nat → Nat} {n : Nat} {nv : Nat → Nat} {c i : Nat} (hc : c ≠ 0) (h : c < 9 ∨ i ≠ n) : adsE E n nv c i = E c i := by
  unfold adsE
  rw [if_neg hc, if_neg (by omega)]
theorem adsE_new {E : Nat → Nat → Nat} {n : Nat} {nv : Nat → Nat} {c : Nat} (hc : 9 ≤ c) (h : c ≤ 11) : adsE E n nv c n = nv c := by
  unfold adsE
  rw [if_neg (by omega), if_pos ⟨hc, h, rfl⟩]
theorem adsE_01 (E : Nat → Nat → Nat) (n : Nat) (nv : Nat → Nat) : adsE E n nv 0 1 = n + 1 := rfl
theorem adsE_0 {E : Nat → Nat → Nat} {n : Nat} {nv : Nat → Nat} {i : Nat} (h : i ≠ 1) : adsE E n nv 0 i = E 0 i := by
  unfold adsE
  rw [if_pos rfl, if_neg h]
theorem zB_ads {E : Nat → Nat → Nat} (h : zB E) (hn : E 0 1 < 8) {nv : Nat → Nat} (h1 : nv 9 ≤ 11) (h2 : nv 10 ≤ 27) (h3 : nv 11 ≤ 27) : zB (adsE E (E 0 1) nv) := by
  obtain ⟨⟨b1, b2, b3, b4, b5, b6⟩, b7, b8⟩ := h
  have e8 : ∀ p, adsE E (E 0 1) nv 8 p = E 8 p := fun p => adsE_old (by omega) (.inl (by omega))
  refine ⟨⟨?_, ?_, ?_, ?_, ?_, ?_⟩, ?_, ?_⟩
  · rw [adsE_0 (by omega)]; exact b1
  · rw [adsE_01]; omega
  · rw [adsE_0 (by omega)]; exact b3
  · rw [adsE_0 (by omega)]
    intro p hp
    rw [adsE_old (by omega) (.inl (by omega)), adsE_old (by omega) (.inl (by omega)), adsE_old (by omega) (.inl (by omega)), adsE_old (by omega) (.inl (by omega)), adsE_old (by omega) (.inl (by omega))]
    exact b4 p hp
  · rw [adsE_01]
    intro s hs
    by_cases e : s = E 0 1
    · subst e
      rw [adsE_new (by omega) (by omega), adsE_new (by omega) (by omega), adsE_new (by omega) (by omega)]
      exact ⟨h1, h2, h3⟩
    · rw [adsE_old (by omega) (.inr e), adsE_old (by omega) (.inr e), adsE_old (by omega) (.inr e)]
      exact b5 s (by omega)
  · rw [adsE_0 (by omega), adsE_0 (by omega), ← b6]
    refine fb_sm_cong (fun k hk => ?_)
    rw [e8]
  · rw [adsE_0 (by omega)]
    intro p hp
    rw [adsE_old (by omega) (.inl (by omega)), adsE_old (by omega) (.inl (by omega))]
    exact b7 p hp
  · rw [adsE_0 (by omega)]
    intro p q hp hq
    rw [e8, e8]
    exact b8 p q hp hq
section EV
variable {T : Nat → Nat} {tl F : Nat} {M8 M9 : gM}
theorem zc_scene (hF : 4000 ≤ F) (hb : xTb T tl) {t : Nat} {E : Nat → Nat → Nat} (hz : zR T tl M8 M9 0 t) (hE : zE E M8 M9) (hB : zB E) :
    zCR T tl t M8 M9 (f_X3_readScene F M8) (fun K => (f_X9_takeClause_b150 F (M9 95 16) (if (8 : Int32) ≤ M9 108 6 then 0 else 1) M9).bind (tlK F K)) := by
  have hn := hB.1.2.1
  have h12 := hE.2.2.1
  have h108 := hE.2.2.2.2.2.1
  by_cases c : E 0 1 < 8
  · obtain ⟨fn', t', x1, x2, x3, B8, B9, p1, p2, p3, p4, p5, p6, p7⟩ := z_takeScene hF hb hz c h108
    obtain ⟨fn2, t2, C8, C9, q1, q2, q3, q4, q5, q6⟩ := z_end hF hb p3
    have g9 := fr9_s q5
    have hr : f_X3_readScene F M8 = f_X3_readScene_b56 F x1 x2 x3 B8 := by
      unfold f_X3_readScene
      rw [h12, if_pos (by rw [show (8 : Int32) = nI 8 from rfl, nI_ltI (by omega) (by omega)]; exact c), p1]
    have hK : ∀ K, (f_X9_takeClause_b150 F (M9 95 16) (if (8 : Int32) ≤ M9 108 6 then 0 else 1) M9).bind (tlK F K) = K C9 := by
      intro K
      rw [h108, if_neg (by rw [show (8 : Int32) = nI 8 from rfl, nI_leI (by omega) (by omega)]; omega)]
      unfold f_X9_takeClause_b150
      have ew := e9_want_1 (M := M9) (w := M9 95 16) (n := 3) hz.2.2.2.2.1
      rw [show (1 : Int32) = nI 1 from rfl, ew, pn_bs, if_neg (by show ¬ nI 1 = nI 0; decide), p2, pn_bs, pn_bs]
      exact q2 K
    have e4 : C8 25 4 = nI fn2 := q3.2.2.2.1
    have fn4 := q3.2.2.1
    have fr9' : ∀ k j, ¬ (k = 95 ∧ 15 ≤ j ∧ j ≤ 19) → ¬ (98 ≤ k ∧ k ≤ 104 ∧ 10 ≤ j) → ¬ (105 ≤ k ∧ k ≤ 107 ∧ 8 ≤ j) → ¬ (k = 108 ∧ 4 ≤ j) → C9 k j = M9 k j := fun k j n1 n2 n3 n4 => by rw [g9 _ _ n1, p5 k j n1 (by omega) (by omega)]
    by_cases cf : fn2 = 0
    · subst cf
      obtain ⟨y0, y1⟩ := q6 rfl
      obtain ⟨-, y2, a, b, d, z1, z2, z3, z4, u1, u2, u3, v1, v2, v3⟩ := p7 y0
      subst u1; subst u2; subst u3
      have k12 : C8 14 12 = nI (E 0 1) := by rw [q4 _ (by omega), p4 _ (by omega), h12]
      have hadd : f_X3_readScene_b56 F (nI a) (nI b) (nI d) B8 = some (gst (gst (gst (gst C8 22 (E 0 1) (nI a)) 23 (E 0 1) (nI b)) 24 (E 0 1) (nI d)) 14 12 (nI (E 0 1 + 1))) := by
        unfold f_X3_readScene_b56 f_X7_addScene
        have r0 : rf 14 7 = 22 := rfl
        have r1 : rf 14 8 = 23 := rfl
        have r2 : rf 14 9 = 24 := rfl
        simp (disch := omega) only [pn_lt, pn_ltM, pl_ofN, ↓pl_m1, pl_lit, fa_litL, pn_bs, ck_n, ckh_n, ck_t, ckh_t, nI_add, nI_clamp, nI_ltI, nI_leI, nI_eq, m1_eq, m1_eq2, m1_lt, m1_le, m1_lt2, m1_le2, m1_m1, nI_m1, nI_subn, gb_n, Nat.add_zero, Nat.zero_add, Nat.zero_or, Nat.or_zero, nle_f, nle_t, nlt_f, nlt_t, neq_f, neq_t, Bool.false_eq_true, eq_self, if_true, if_false, ite_true, ite_false, and_true, true_and, and_false, false_and, decide_true, decide_false, Bool.and_true, Bool.true_and, Bool.and_false, Bool.false_and, Bool.or_false, Bool.false_or, Bool.or_true, Bool.true_or, Bool.not_true, Bool.not_false, not_true_eq_false, not_false_eq_true, q1, e4, k12, gst_v, r0, r1, r2]
      have fq : ∀ k j, ¬ (k = 14 ∧ j = 12) → ¬ (22 ≤ k ∧ k ≤ 24 ∧ j = E 0 1) → (gst (gst (gst (gst C8 22 (E 0 1) (nI a)) 23 (E 0 1) (nI b)) 24 (E 0 1) (nI d)) 14 12 (nI (E 0 1 + 1))) k j = C8 k j := fun k j h1 h2 => by
          rw [gst_v, gst_v, gst_v, gst_v, if_neg (by omega), if_neg (by omega), if_neg (by omega), if_neg (by omega)]
      refine ⟨0, t2, _, C9, adsE E (E 0 1) (fun c => [0, 0, 0, 0, 0, 0, 0, 0, 0, a, b, d].getD c 0), hr.trans hadd, hK, ?_, fun k j hk => ?_, fr9', fun _ => ⟨by omega, ?_, ?_⟩⟩
      · obtain ⟨h8, h9, h4, e8, e9, ep, ht, et, e0⟩ := q3
        refine ⟨⟨?_, fun i hi => ?_⟩, h9, h4, ?_, e9, ?_, ht, ?_, fun q => ?_⟩
        · rw [fq _ _ (by omega) (by omega)]; exact h8.1
        · rw [fq _ _ (by omega) (by omega)]; exact h8.2 i hi
        · rw [fq _ _ (by omega) (by omega)]; exact e8
        · rw [fq _ _ (by omega) (by omega)]; exact ep
        · rw [fq _ _ (by omega) (by omega)]; exact et
        · rw [fq _ _ (by omega) (by omega)]; exact e0 q
      · rw [fq _ _ (by omega) (by omega), q4 _ (by omega), p4 _ (by omega)]
      · obtain ⟨o1, o2, o3, o4, o5, o6, o7, o8⟩ := hE
        have c8 : ∀ k j, k ≠ 25 → C8 k j = M8 k j := fun k j hk => by rw [q4 _ hk, p4 _ hk]
        have c9 : ∀ k j, 98 ≤ k → ¬ (105 ≤ k ∧ k ≤ 107 ∧ j = 8 + E 0 1) → ¬ (k = 108 ∧ j = 6) → C9 k j = M9 k j := fun k j n1 n2 n3 => by rw [g9 _ _ (by omega), p5 k j (by omega) n2 n3]
        have c8q : ∀ k j, k ≠ 25 → ¬ (k = 14 ∧ j = 12) → ¬ (22 ≤ k ∧ k ≤ 24 ∧ j = E 0 1) → (gst (gst (gst (gst C8 22 (E 0 1) (nI a)) 23 (E 0 1) (nI b)) 24 (E 0 1) (nI d)) 14 12 (nI (E 0 1 + 1))) k j = M8 k j := fun k j h0 h1 h2 => by rw [fq k j h1 h2, c8 k j h0]
        refine ⟨?_, ?_, ?_, ?_, ?_, ?_, fun x hx => ?_, fun s hs => ?_⟩
        · rw [adsE_0 (by omega), c8q _ _ (by omega) (by omega) (by omega), o1]
        · rw [adsE_0 (by omega), c8q _ _ (by omega) (by omega) (by omega), o2]
        · rw [adsE_01, gst_v, if_pos ⟨rfl, rfl⟩]
        · rw [adsE_0 (by omega), c9 _ _ (by omega) (by omega) (by omega), o4]
        · rw [adsE_0 (by omega), c9 _ _ (by omega) (by omega) (by omega), o5]
        · rw [adsE_01, g9 _ _ (by omega), p6]
        · rw [adsE_0 (by omega)] at hx
          obtain ⟨a1, a2, a3, a4, a5, a6, a7, b1, b2, b3, b4, b5, b6, b7⟩ := o7 x hx
          rw [adsE_old (by omega) (.inl (by omega)), adsE_old (by omega) (.inl (by omega)), adsE_old (by omega) (.inl (by omega)), adsE_old (by omega) (.inl (by omega)), adsE_old (by omega) (.inl (by omega)), adsE_old (by omega) (.inl (by omega)), adsE_old (by omega) (.inl (by omega))]
          refine ⟨?_, ?_, ?_, ?_, ?_, ?_, ?_, ?_, ?_, ?_, ?_, ?_, ?_, ?_⟩
          · rw [c8q _ _ (by omega) (by omega) (by omega)]; exact a1
          · rw [c8q _ _ (by omega) (by omega) (by omega)]; exact a2
          · rw [c8q _ _ (by omega) (by omega) (by omega)]; exact a3
          · rw [c8q _ _ (by omega) (by omega) (by omega)]; exact a4
          · rw [c8q _ _ (by omega) (by omega) (by omega)]; exact a5
          · rw [c8q _ _ (by omega) (by omega) (by omega)]; exact a6
          · rw [c8q _ _ (by omega) (by omega) (by omega)]; exact a7
          · rw [c9 _ _ (by omega) (by omega) (by omega)]; exact b1
          · rw [c9 _ _ (by omega) (by omega) (by omega)]; exact b2
          · rw [c9 _ _ (by omega) (by omega) (by omega)]; exact b3
          · rw [c9 _ _ (by omega) (by omega) (by omega)]; exact b4
          · rw [c9 _ _ (by omega) (by omega) (by omega)]; exact b5
          · rw [c9 _ _ (by omega) (by omega) (by omega)]; exact b6
          · rw [c9 _ _ (by omega) (by omega) (by omega)]; exact b7
        · rw [adsE_01] at hs
          by_cases es : s = E 0 1
          · subst es
            rw [adsE_new (by omega) (by omega), adsE_new (by omega) (by omega), adsE_new (by omega) (by omega)]
            refine ⟨?_, ?_, ?_, ?_, ?_, ?_⟩
            · simp (disch := omega) only [pn_lt, pn_ltM, pl_ofN, ↓pl_m1, pl_lit, fa_litL, pn_bs, ck_n, ckh_n, ck_t, ckh_t, nI_add, nI_clamp, nI_ltI, nI_leI, nI_eq, m1_eq, m1_eq2, m1_lt, m1_le, m1_lt2, m1_le2, m1_m1, nI_m1, nI_subn, gb_n, Nat.add_zero, Nat.zero_add, Nat.zero_or, Nat.or_zero, nle_f, nle_t, nlt_f, nlt_t, neq_f, neq_t, Bool.false_eq_true, eq_self, if_true, if_false, ite_true, ite_false, and_true, true_and, and_false, false_and, decide_true, decide_false, Bool.and_true, Bool.true_and, Bool.and_false, Bool.false_and, Bool.or_false, Bool.false_or, Bool.or_true, Bool.true_or, Bool.not_true, Bool.not_false, not_true_eq_false, not_false_eq_true, gst_v]; rfl
            · simp (disch := omega) only [pn_lt, pn_ltM, pl_ofN, ↓pl_m1, pl_lit, fa_litL, pn_bs, ck_n, ckh_n, ck_t, ckh_t, nI_add, nI_clamp, nI_ltI, nI_leI, nI_eq, m1_eq, m1_eq2, m1_lt, m1_le, m1_lt2, m1_le2, m1_m1, nI_m1, nI_subn, gb_n, Nat.add_zero, Nat.zero_add, Nat.zero_or, Nat.or_zero, nle_f, nle_t, nlt_f, nlt_t, neq_f, neq_t, Bool.false_eq_true, eq_self, if_true, if_false, ite_true, ite_false, and_true, true_and, and_false, false_and, decide_true, decide_false, Bool.and_true, Bool.true_and, Bool.and_false, Bool.false_and, Bool.or_false, Bool.false_or, Bool.or_true, Bool.true_or, Bool.not_true, Bool.not_false, not_true_eq_false, not_false_eq_true, gst_v]; rfl
            · simp (disch := omega) only [pn_lt, pn_ltM, pl_ofN, ↓pl_m1, pl_lit, fa_litL, pn_bs, ck_n, ckh_n, ck_t, ckh_t, nI_add, nI_clamp, nI_ltI, nI_leI, nI_eq, m1_eq, m1_eq2, m1_lt, m1_le, m1_lt2, m1_le2, m1_m1, nI_m1, nI_subn, gb_n, Nat.add_zero, Nat.zero_add, Nat.zero_or, Nat.or_zero, nle_f, nle_t, nlt_f, nlt_t, neq_f, neq_t, Bool.false_eq_true, eq_self, if_true, if_false, ite_true, ite_false, and_true, true_and, and_false, false_and, decide_true, decide_false, Bool.and_true, Bool.true_and, Bool.and_false, Bool.false_and, Bool.or_false, Bool.false_or, Bool.or_true, Bool.true_or, Bool.not_true, Bool.not_false, not_true_eq_false, not_false_eq_true, gst_v]; rfl
            · rw [g9 _ _ (by omega)]; exact v1
            · rw [g9 _ _ (by omega)]; exact v2
            · rw [g9 _ _ (by omega)]; exact v3
          · obtain ⟨a1, a2, a3, b1, b2, b3⟩ := o8 s (by omega)
            rw [adsE_old (by omega) (.inr es), adsE_old (by omega) (.inr es), adsE_old (by omega) (.inr es)]
            refine ⟨?_, ?_, ?_, ?_, ?_, ?_⟩
            · rw [c8q _ _ (by omega) (by omega) (by omega)]; exact a1
            · rw [c8q _ _ (by omega) (by omega) (by omega)]; exact a2
            · rw [c8q _ _ (by omega) (by omega) (by omega)]; exact a3
            · rw [c9 _ _ (by omega) (by omega) (by omega)]; exact b1
            · rw [c9 _ _ (by omega) (by omega) (by omega)]; exact b2
            · rw [c9 _ _ (by omega) (by omega) (by omega)]; exact b3
      · exact zB_ads hB c z1 z2 z3
    · refine ⟨fn2, t2, C8, C9, E, ?_, hK, q3, fun k j hk => by rw [q4 _ (by omega), p4 _ (by omega)], fr9', fun q => absurd q cf⟩
      rw [hr]
      unfold f_X3_readScene_b56
      simp (disch := omega) only [pn_lt, pn_ltM, pl_ofN, ↓pl_m1, pl_lit, fa_litL, pn_bs, ck_n, ckh_n, ck_t, ckh_t, nI_add, nI_clamp, nI_ltI, nI_leI, nI_eq, m1_eq, m1_eq2, m1_lt, m1_le, m1_lt2, m1_le2, m1_m1, nI_m1, nI_subn, gb_n, Nat.add_zero, Nat.zero_add, Nat.zero_or, Nat.or_zero, nle_f, nle_t, nlt_f, nlt_t, neq_f, neq_t, Bool.false_eq_true, eq_self, if_true, if_false, ite_true, ite_false, and_true, true_and, and_false, false_and, decide_true, decide_false, Bool.and_true, Bool.true_and, Bool.and_false, Bool.false_and, Bool.or_false, Bool.false_or, Bool.or_true, Bool.true_or, Bool.not_true, Bool.not_false, not_true_eq_false, not_false_eq_true, q1, e4]
  · obtain ⟨fn', A8, A9, a1, a2, a3, a4, a5, a6⟩ := z_many hz
    have g9 := fr9_s a5
    refine ⟨fn', t, A8, A9, E, ?_, fun K => ?_, a3, fun k j hk => by rw [a4 _ (by omega)], fun k j n1 _ _ _ => g9 _ _ n1, fun q => absurd q a6⟩
    · have e8 : A8 25 4 = nI fn' := a3.2.2.2.1
      have f4 := a3.2.2.1
      have hnum := fun a => z_flt_num (F := F) a3 a6 a
      have hend := z_flt_end (F := F) a3 a6
      unfold f_X3_readScene f_X3_readScene_b21 f_X3_readScene_b56
      rw [h12, if_neg (by rw [show (8 : Int32) = nI 8 from rfl, nI_ltI (by omega) (by omega)]; exact c), a1, pn_bs]
      simp (disch := omega) only [pn_lt, pn_ltM, pl_ofN, ↓pl_m1, pl_lit, fa_litL, pn_bs, ck_n, ckh_n, ck_t, ckh_t, nI_add, nI_clamp, nI_ltI, nI_leI, nI_eq, m1_eq, m1_eq2, m1_lt, m1_le, m1_lt2, m1_le2, m1_m1, nI_m1, nI_subn, gb_n, Nat.add_zero, Nat.zero_add, Nat.zero_or, Nat.or_zero, nle_f, nle_t, nlt_f, nlt_t, neq_f, neq_t, Bool.false_eq_true, eq_self, if_true, if_false, ite_true, ite_false, and_true, true_and, and_false, false_and, decide_true, decide_false, Bool.and_true, Bool.true_and, Bool.and_false, Bool.false_and, Bool.or_false, Bool.false_or, Bool.or_true, Bool.true_or, Bool.not_true, Bool.not_false, not_true_eq_false, not_false_eq_true, hnum, hend, e8]
    · show (f_X9_takeClause_b150 F (M9 95 16) _ M9).bind (tlK F K) = _
      rw [h108, if_pos (by rw [show (8 : Int32) = nI 8 from rfl, nI_leI (by omega) (by omega)]; omega)]
      unfold f_X9_takeClause_b150
      rw [a2, pn_bs, if_pos rfl, pn_bs, z_flt_K a3 a6]
end EV
