/-! the model's sets -/
/-- the row tells of every set whether P -/
def bRR (P : Nat → Prop) (M : gM) (o off : Nat) : Prop := ∀ a, a < 1024 → (M o (off + a) = nI 1 ∧ P a) ∨ (M o (off + a) = nI 0 ∧ ¬ P a)
theorem bRR_of {P P' : Nat → Prop} {M : gM} {o off : Nat} (h : bRR P M o off) (e : ∀ a, a < 1024 → (P a ↔ P' a)) : bRR P' M o off := fun a ha => by
  rcases h a ha with ⟨h1, h2⟩ | ⟨h1, h2⟩
  · exact .inl ⟨h1, (e a ha).mp h2⟩
  · exact .inr ⟨h1, fun q => h2 ((e a ha).mpr q)⟩
theorem bRR_fr {P : Nat → Prop} {M M' : gM} {o off : Nat} (h : bRR P M o off) (e : ∀ a, a < 1024 → M' o (off + a) = M o (off + a)) : bRR P M' o off := fun a ha => by
  rw [e a ha]
  exact h a ha
theorem bRR_y {P : Nat → Prop} {M : gM} {o off a : Nat} (h : bRR P M o off) (ha : a < 1024) (hp : P a) : M o (off + a) = nI 1 := by
  rcases h a ha with ⟨h1, h2⟩ | ⟨h1, h2⟩
  · exact h1
  · exact absurd hp h2
theorem bRR_n {P : Nat → Prop} {M : gM} {o off a : Nat} (h : bRR P M o off) (ha : a < 1024) (hp : ¬ P a) : M o (off + a) = nI 0 := by
  rcases h a ha with ⟨h1, h2⟩ | ⟨h1, h2⟩
  · exact absurd h2 hp
  · exact h1
/-- all that the model's search reads of the rest -/
def qMR (D : Nat → Nat → Nat) (bn : Nat) (M : gM) : Prop := qTW D M ∧ qLK D M ∧ qS9 (D 0 0) D M ∧ M 95 22 = nI bn
theorem qMR_fr {D : Nat → Nat → Nat} {bn : Nat} {M M' : gM} (hW : qWF D) (h : qMR D bn M) (e : ∀ k j, (k < 43 ∨ 88 ≤ k ∧ k ≤ 110 ∧ k ≠ 95 ∧ (k = 96 → j < 40) ∨ k = 95 ∧ (j = 21 ∨ j = 22)) → M' k j = M k j) : qMR D bn M' :=
  ⟨qTW_fr h.1 hW.1.1 hW.1.2.1 (fun k j q => e k j (by omega)), qLK_fr h.2.1 (fun k j q => e k j (by omega)), qS9_fr h.2.2.1 hW.1.1 (fun j q => e 96 j (by omega)), (e _ _ (by omega)).trans h.2.2.2⟩
theorem and1_0 : nI 0 &&& nI 1 = nI 0 := by decide +kernel
theorem and1_1 : nI 1 &&& nI 1 = nI 1 := by decide +kernel
/-- one scene more, the first i looks, of the next one the sets below k -/
def asQ (D : Nat → Nat → Nat) (bn s : Nat) (P : Nat → Prop) (i k : Nat) : Nat → Prop := fun a =>
  ∃ i' a', (i' < i ∨ i' = i ∧ a' < k) ∧ i' < D 0 9 ∧ a' < 1024 ∧ lfB D bn i' s = true ∧ P a' ∧ a' &&& qmk D i' = 0 ∧ a = a' ||| qmk D i'
section EV
variable {F : Nat} {D : Nat → Nat → Nat} {M : gM} {bn : Nat}
theorem e9_addScene (hF : 4000 ≤ F) (hW : qWF D) (hbn : bn < 1024) (hQ : qMR D bn M) {s : Nat} (hs : s < D 0 1) {P : Nat → Prop} (hP : bRR P M 114 0) :
    ∃ M', f_X9_addScene F (nI 0) (nI s) M = some M' ∧ bRR (asQ D bn s P (D 0 9) 0) M' 114 0 ∧ (∀ k j, k ≠ 113 → k ≠ 114 → M' k j = M k j) := by
  have h36 := hW.2.1.1
  have hs8 := hW.1.2.1
  obtain ⟨N1, ⟨a1, a2, a3⟩, a4⟩ := up_inv (fun n x (N : gM) => f_X9_addScene_h2 F (nI 0) (nI s) n (nI x) N) 1024 (fun x N => (∀ k j, k ≠ 113 → k ≠ 114 → N k j = M k j) ∧ (∀ a, a < x → N 113 a = M 114 a ∧ N 114 a = nI 0) ∧ (∀ a, x ≤ a → N 114 a = M 114 a)) (by
    rintro n x N hx ⟨u1, u2, u3⟩
    have v := u3 x (Nat.le_refl _)
    have v2 : M 114 x &&& nI 1 = M 114 x := by
      rcases hP x hx with ⟨p1, -⟩ | ⟨p1, -⟩ <;> rw [Nat.zero_add] at p1 <;> rw [p1]
      · exact and1_1
      · exact and1_0
    refine ⟨gst (gst N 113 x (M 114 x)) 114 x (nI 0), ⟨fun k j n1 n2 => ?_, fun a ha => ?_, fun a ha => ?_⟩, ?_⟩
    · rw [gst_v, if_neg (by omega), gst_v, if_neg (by omega)]
      exact u1 k j n1 n2
    · by_cases e : a = x
      · subst e
        refine ⟨?_, ?_⟩
        · rw [gst_v, if_neg (by omega), gst_v, if_pos ⟨rfl, rfl⟩]
        · rw [gst_v, if_pos ⟨rfl, rfl⟩]
      · obtain ⟨w1, w2⟩ := u2 a (by omega)
        refine ⟨?_, ?_⟩
        · rw [gst_v, if_neg (by omega), gst_v, if_neg (by omega), w1]
        · rw [gst_v, if_neg (by omega), gst_v, if_neg (by omega), w2]
    · rw [gst_v, if_neg (by omega), gst_v, if_neg (by omega)]
      exact u3 a (by omega)
    · show f_X9_addScene_h2_b F _ _ _ _ _ = _
      unfold f_X9_addScene_h2_b
      simp (disch := omega) only [pn_lt, pn_ltM, pl_ofN, ↓pl_m1, pl_lit, fa_litL, pn_bs, ck_n, ckh_n, ck_t, ckh_t, nI_add, nI_clamp, nI_ltI, nI_leI, nI_eq, m1_eq, m1_eq2, m1_lt, m1_le, m1_lt2, m1_le2, m1_m1, nI_m1, nI_subn, gb_n, Nat.add_zero, Nat.zero_add, Nat.zero_or, Nat.or_zero, nle_f, nle_t, nlt_f, nlt_t, neq_f, neq_t, Bool.false_eq_true, eq_self, if_true, if_false, ite_true, ite_false, and_true, true_and, and_false, false_and, decide_true, decide_false, Bool.and_true, Bool.true_and, Bool.and_false, Bool.false_and, Bool.or_false, Bool.false_or, Bool.or_true, Bool.true_or, Bool.not_true, Bool.not_false, not_true_eq_false, not_false_eq_true, v, v2, and1_0]) 1024 0 M F (by omega) (by omega) ⟨fun _ _ _ _ => rfl, fun a ha => absurd ha (Nat.not_lt_zero _), fun _ _ => rfl⟩
  have b113 : bRR P N1 113 0 := fun a ha => by
    have := hP a ha
    rw [Nat.zero_add] at this ⊢
    rw [(a2 a ha).1]
    exact this
  have b114 : bRR (asQ D bn s P 0 0) N1 114 0 := fun a ha => by
    refine .inr ⟨?_, ?_⟩
    · rw [Nat.zero_add, (a2 a ha).2]
    · rintro ⟨i', a', q1, -⟩
      omega
  have hbig : ∀ N : gM, (∀ k j, k ≠ 113 → k ≠ 114 → N k j = M k j) → qMR D bn N := fun N hN => qMR_fr hW hQ (fun k j q => hN k j (by omega) (by omega))
  -- one look
  have inner : ∀ (i : Nat) (k36 : Int32 → gM → Option gM) (N : gM), i < D 0 9 → lfB D bn i s = true → bRR P N 113 0 → bRR (asQ D bn s P i 0) N 114 0 → (∀ k j, k ≠ 113 → k ≠ 114 → N k j = M k j) →
      ∃ N', f_X9_addScene_h62 F (nI 0) (nI s) k36 F (nI i) (nI 0) N = k36 (nI (i + 1)) N' ∧ bRR P N' 113 0 ∧ bRR (asQ D bn s P (i + 1) 0) N' 114 0 ∧ (∀ k j, k ≠ 113 → k ≠ 114 → N' k j = M k j) := by
    intro i k36 N hi hlf q0 q1 q2
    have hm := qmk_1024 hW hi
    obtain ⟨N', ⟨b0, b1, b2⟩, b3⟩ := up_inv (fun n x (N : gM) => f_X9_addScene_h62 F (nI 0) (nI s) k36 n (nI i) (nI x) N) 1024 (fun x N => bRR P N 113 0 ∧ bRR (asQ D bn s P i x) N 114 0 ∧ (∀ k j, k ≠ 113 → k ≠ 114 → N k j = M k j)) (by
      rintro n x N hx ⟨u0, u1, u2⟩
      have v1 : N 110 i = nI (qmk D i) := ((hbig N u2).2.1.2.2 i hi).2.2.2
      have w3 : x &&& qmk D i < 1024 := Nat.lt_of_le_of_lt Nat.and_le_left hx
      have w4 : x ||| qmk D i < 1024 := Nat.or_lt_two_pow (n := 10) hx hm
      have hsame : ¬ (P x ∧ x &&& qmk D i = 0) → bRR (asQ D bn s P i (x + 1)) N 114 0 := fun hno => bRR_of u1 (fun a ha => by
        constructor
        · rintro ⟨i', a', y1, y2⟩
          exact ⟨i', a', by omega, y2⟩
        · rintro ⟨i', a', y1, y2, y3, y4, y5, y6, y7⟩
          refine ⟨i', a', ?_, y2, y3, y4, y5, y6, y7⟩
          by_cases zz : i' = i ∧ a' = x
          · obtain ⟨zz1, zz2⟩ := zz
            subst zz1; subst zz2
            exact absurd ⟨y5, y6⟩ hno
          · omega)
      rcases u0 x hx with ⟨p1, p2⟩ | ⟨p1, p2⟩
      · rw [Nat.zero_add] at p1
        by_cases z : x &&& qmk D i = 0
        · refine ⟨gst N 114 (x ||| qmk D i) (nI 1), ⟨bRR_fr u0 (fun a ha => by rw [gst_v, if_neg (by omega)]), fun a ha => ?_, fun k j n1 n2 => by rw [gst_v, if_neg (by omega)]; exact u2 k j n1 n2⟩, ?_⟩
          · rw [Nat.zero_add, gst_v]
            by_cases e : a = x ||| qmk D i
            · rw [if_pos ⟨rfl, e⟩]
              exact .inl ⟨rfl, i, x, by omega, hi, hx, hlf, p2, z, e⟩
            · rw [if_neg (fun y => e y.2)]
              have h0 := u1 a ha
              rw [Nat.zero_add] at h0
              rcases h0 with ⟨h1, i', a', y1, y2⟩ | ⟨h1, h2⟩
              · exact .inl ⟨h1, i', a', by omega, y2⟩
              · refine .inr ⟨h1, ?_⟩
                rintro ⟨i', a', y1, y2, y3, y4, y5, y6, y7⟩
                refine h2 ⟨i', a', ?_, y2, y3, y4, y5, y6, y7⟩
                by_cases zz : i' = i ∧ a' = x
                · obtain ⟨zz1, zz2⟩ := zz
                  subst zz1; subst zz2
                  exact absurd y7 e
                · omega
          · show f_X9_addScene_h62_b F _ _ _ _ _ _ _ = _
            unfold f_X9_addScene_h62_b
            simp (disch := omega) only [pn_lt, pn_ltM, pl_ofN, ↓pl_m1, pl_lit, fa_litL, pn_bs, ck_n, ckh_n, ck_t, ckh_t, nI_add, nI_clamp, nI_ltI, nI_leI, nI_eq, m1_eq, m1_eq2, m1_lt, m1_le, m1_lt2, m1_le2, m1_m1, nI_m1, nI_subn, gb_n, Nat.add_zero, Nat.zero_add, Nat.zero_or, Nat.or_zero, nle_f, nle_t, nlt_f, nlt_t, neq_f, neq_t, Bool.false_eq_true, eq_self, if_true, if_false, ite_true, ite_false, and_true, true_and, and_false, false_and, decide_true, decide_false, Bool.and_true, Bool.true_and, Bool.and_false, Bool.false_and, Bool.or_false, Bool.false_or, Bool.or_true, Bool.true_or, Bool.not_true, Bool.not_false, not_true_eq_false, not_false_eq_true, p1, v1, pl_and, pl_or, z, and1_1]
            rfl
        · refine ⟨N, ⟨u0, hsame (fun y => z y.2), u2⟩, ?_⟩
          show f_X9_addScene_h62_b F _ _ _ _ _ _ _ = _
          unfold f_X9_addScene_h62_b
          simp (disch := omega) only [pn_lt, pn_ltM, pl_ofN, ↓pl_m1, pl_lit, fa_litL, pn_bs, ck_n, ckh_n, ck_t, ckh_t, nI_add, nI_clamp, nI_ltI, nI_leI, nI_eq, m1_eq, m1_eq2, m1_lt, m1_le, m1_lt2, m1_le2, m1_m1, nI_m1, nI_subn, gb_n, Nat.add_zero, Nat.zero_add, Nat.zero_or, Nat.or_zero, nle_f, nle_t, nlt_f, nlt_t, neq_f, neq_t, Bool.false_eq_true, eq_self, if_true, if_false, ite_true, ite_false, and_true, true_and, and_false, false_and, decide_true, decide_false, Bool.and_true, Bool.true_and, Bool.and_false, Bool.false_and, Bool.or_false, Bool.false_or, Bool.or_true, Bool.true_or, Bool.not_true, Bool.not_false, not_true_eq_false, not_false_eq_true, p1, v1, pl_and, z]
      · rw [Nat.zero_add] at p1
        refine ⟨N, ⟨u0, hsame (fun y => p2 y.1), u2⟩, ?_⟩
        show f_X9_addScene_h62_b F _ _ _ _ _ _ _ = _
        unfold f_X9_addScene_h62_b
        simp (disch := omega) only [pn_lt, pn_ltM, pl_ofN, ↓pl_m1, pl_lit, fa_litL, pn_bs, ck_n, ckh_n, ck_t, ckh_t, nI_add, nI_clamp, nI_ltI, nI_leI, nI_eq, m1_eq, m1_eq2, m1_lt, m1_le, m1_lt2, m1_le2, m1_m1, nI_m1, nI_subn, gb_n, Nat.add_zero, Nat.zero_add, Nat.zero_or, Nat.or_zero, nle_f, nle_t, nlt_f, nlt_t, neq_f, neq_t, Bool.false_eq_true, eq_self, if_true, if_false, ite_true, ite_false, and_true, true_and, and_false, false_and, decide_true, decide_false, Bool.and_true, Bool.true_and, Bool.and_false, Bool.false_and, Bool.or_false, Bool.false_or, Bool.or_true, Bool.true_or, Bool.not_true, Bool.not_false, not_true_eq_false, not_false_eq_true, p1]) 1024 0 N F (by omega) (by omega) ⟨q0, q1, q2⟩
    refine ⟨N', b3.trans ?_, b0, bRR_of b1 (fun a ha => ?_), b2⟩
    · obtain ⟨n', en⟩ : ∃ n', F - 1024 = n' + 1 := ⟨F - 1025, by omega⟩
      rw [en]
      show f_X9_addScene_h62_b F _ _ _ _ _ _ _ = _
      unfold f_X9_addScene_h62_b
      simp (disch := omega) only [pn_lt, pn_ltM, pl_ofN, ↓pl_m1, pl_lit, fa_litL, pn_bs, ck_n, ckh_n, ck_t, ckh_t, nI_add, nI_clamp, nI_ltI, nI_leI, nI_eq, m1_eq, m1_eq2, m1_lt, m1_le, m1_lt2, m1_le2, m1_m1, nI_m1, nI_subn, gb_n, Nat.add_zero, Nat.zero_add, Nat.zero_or, Nat.or_zero, nle_f, nle_t, nlt_f, nlt_t, neq_f, neq_t, Bool.false_eq_true, eq_self, if_true, if_false, ite_true, ite_false, and_true, true_and, and_false, false_and, decide_true, decide_false, Bool.and_true, Bool.true_and, Bool.and_false, Bool.false_and, Bool.or_false, Bool.false_or, Bool.or_true, Bool.true_or, Bool.not_true, Bool.not_false, not_true_eq_false, not_false_eq_true]
    · constructor
      · rintro ⟨i', a', y1, y2⟩
        exact ⟨i', a', by omega, y2⟩
      · rintro ⟨i', a', y1, y2, y3, y4⟩
        exact ⟨i', a', by omega, y2, y3, y4⟩
  obtain ⟨M', ⟨b0, b1, b2⟩, b3⟩ := up_inv (fun n i (N : gM) => f_X9_addScene_h36 F (nI 0) (nI s) n (nI i) N) (D 0 9) (fun i N => bRR P N 113 0 ∧ bRR (asQ D bn s P i 0) N 114 0 ∧ (∀ k j, k ≠ 113 → k ≠ 114 → N k j = M k j)) (by
    rintro n i N hi ⟨u0, u1, u2⟩
    obtain ⟨qT, qL, qS, qb⟩ := hbig N u2
    have e1 := e9_isFor9 hF hW qT qS qb hbn hi hs
    have v1 := (qL.2.2 i hi).2.2.2
    cases z : lfB D bn i s
    · refine ⟨N, ⟨u0, bRR_of u1 (fun a ha => ?_), u2⟩, ?_⟩
      · constructor
        · rintro ⟨i', a', y1, y2⟩
          exact ⟨i', a', by omega, y2⟩
        · rintro ⟨i', a', y1, y2, y3, y4, y5⟩
          refine ⟨i', a', ?_, y2, y3, y4, y5⟩
          by_cases zz : i' = i
          · rw [zz, z] at y4
            exact absurd y4 (by decide)
          · omega
      · show f_X9_addScene_h36_b F _ _ _ _ _ = _
        unfold f_X9_addScene_h36_b
        simp (disch := omega) only [pn_lt, pn_ltM, pl_ofN, ↓pl_m1, pl_lit, fa_litL, pn_bs, ck_n, ckh_n, ck_t, ckh_t, nI_add, nI_clamp, nI_ltI, nI_leI, nI_eq, m1_eq, m1_eq2, m1_lt, m1_le, m1_lt2, m1_le2, m1_m1, nI_m1, nI_subn, gb_n, Nat.add_zero, Nat.zero_add, Nat.zero_or, Nat.or_zero, nle_f, nle_t, nlt_f, nlt_t, neq_f, neq_t, Bool.false_eq_true, eq_self, if_true, if_false, ite_true, ite_false, and_true, true_and, and_false, false_and, decide_true, decide_false, Bool.and_true, Bool.true_and, Bool.and_false, Bool.false_and, Bool.or_false, Bool.false_or, Bool.or_true, Bool.true_or, Bool.not_true, Bool.not_false, not_true_eq_false, not_false_eq_true, qL.2.1, v1, e1, z]
    · obtain ⟨N', t1, t2, t3, t4⟩ := inner i (f_X9_addScene_h36 F (nI 0) (nI s) n) N hi z u0 u1 u2
      refine ⟨N', ⟨t2, t3, t4⟩, ?_⟩
      show f_X9_addScene_h36_b F _ _ _ _ _ = _
      unfold f_X9_addScene_h36_b
      simp (disch := omega) only [pn_lt, pn_ltM, pl_ofN, ↓pl_m1, pl_lit, fa_litL, pn_bs, ck_n, ckh_n, ck_t, ckh_t, nI_add, nI_clamp, nI_ltI, nI_leI, nI_eq, m1_eq, m1_eq2, m1_lt, m1_le, m1_lt2, m1_le2, m1_m1, nI_m1, nI_subn, gb_n, Nat.add_zero, Nat.zero_add, Nat.zero_or, Nat.or_zero, nle_f, nle_t, nlt_f, nlt_t, neq_f, neq_t, Bool.false_eq_true, eq_self, if_true, if_false, ite_true, ite_false, and_true, true_and, and_false, false_and, decide_true, decide_false, Bool.and_true, Bool.true_and, Bool.and_false, Bool.false_and, Bool.or_false, Bool.false_or, Bool.or_true, Bool.true_or, Bool.not_true, Bool.not_false, not_true_eq_false, not_false_eq_true, qL.2.1, v1, e1, z, t1]) (D 0 9) 0 N1 F (by omega) (by omega) ⟨b113, b114, a1⟩
  refine ⟨M', ?_, b1, b2⟩
  unfold f_X9_addScene
  refine a4.trans ?_
  obtain ⟨n', en⟩ : ∃ n', F - 1024 = n' + 1 := ⟨F - 1025, by omega⟩
  rw [en]
  show f_X9_addScene_h2_b F _ _ _ _ _ = _
  unfold f_X9_addScene_h2_b
  rw [if_pos (by rw [show (1024 : Int32) = nI 1024 from rfl, nI_leI (by omega) (by omega)]; omega)]
  refine b3.trans ?_
  obtain ⟨n2, en2⟩ : ∃ n2, F - D 0 9 = n2 + 1 := ⟨F - D 0 9 - 1, by omega⟩
  rw [en2]
  show f_X9_addScene_h36_b F _ _ _ _ _ = _
  unfold f_X9_addScene_h36_b
  have v1 := (hbig M' b2).2.1.2.1
  simp (disch := omega) only [pn_lt, pn_ltM, pl_ofN, ↓pl_m1, pl_lit, fa_litL, pn_bs, ck_n, ckh_n, ck_t, ckh_t, nI_add, nI_clamp, nI_ltI, nI_leI, nI_eq, m1_eq, m1_eq2, m1_lt, m1_le, m1_lt2, m1_le2, m1_m1, nI_m1, nI_subn, gb_n, Nat.add_zero, Nat.zero_add, Nat.zero_or, Nat.or_zero, nle_f, nle_t, nlt_f, nlt_t, neq_f, neq_t, Bool.false_eq_true, eq_self, if_true, if_false, ite_true, ite_false, and_true, true_and, and_false, false_and, decide_true, decide_false, Bool.and_true, Bool.true_and, Bool.and_false, Bool.false_and, Bool.or_false, Bool.false_or, Bool.or_true, Bool.true_or, Bool.not_true, Bool.not_false, not_true_eq_false, not_false_eq_true, v1]
theorem asQ_CR (hW : qWF D) {h u k : Nat} (e : D 9 (u + k) = h) (a : Nat) : asQ D bn (u + k) (fun a => ∃ c, CR D bn h u k a c) (D 0 9) 0 a ↔ ∃ c, CR D bn h u (k + 1) a c := by
  constructor
  · rintro ⟨i, a', -, y2, y3, y4, ⟨c, y5⟩, y6, y7⟩
    exact ⟨c * 64 + i, (CR_yes e).mpr ⟨i, a', c, y2, y4, y5, y6, y7, rfl⟩⟩
  · rintro ⟨c, q⟩
    obtain ⟨i, a', c', y1, y2, y3, y4, y5, y6⟩ := (CR_yes e).mp q
    exact ⟨i, a', .inl y1, y1, CR_1024 hW y3, y2, ⟨c', y3⟩, y4, y5⟩
theorem e9_findSets (hF : 4000 ≤ F) (hW : qWF D) (hbn : bn < 1024) (hQ : qMR D bn M) {h : Nat} (hh : h < 12) :
    ∃ M', f_X9_findSets F (nI 0) (nI h) M = some M' ∧ bRR (fun a => ∃ c, CR D bn h 0 (D 0 1) a c) M' 111 (1024 * h) ∧ (∀ k j, k ≠ 113 → k ≠ 114 → ¬ (k = 111 ∧ 1024 * h ≤ j ∧ j < 1024 * h + 1024) → M' k j = M k j) := by
  have hs8 := hW.1.2.1
  obtain ⟨N1, ⟨a1, a2⟩, a4⟩ := up_inv (fun n x (N : gM) => f_X9_findSets_h2 F (nI 0) (nI h) n (nI x) N) 1024 (fun x N => (∀ k j, k ≠ 114 → N k j = M k j) ∧ (∀ a, a < x → N 114 a = nI (if a = 0 then 1 else 0))) (by
    rintro n x N hx ⟨u1, u2⟩
    refine ⟨gst N 114 x (nI (if x = 0 then 1 else 0)), ⟨fun k j n1 => ?_, fun a ha => ?_⟩, ?_⟩
    · rw [gst_v, if_neg (by omega)]
      exact u1 k j n1
    · rw [gst_v]
      by_cases e : a = x
      · rw [if_pos ⟨rfl, e⟩, e]
      · rw [if_neg (fun y => e y.2)]
        exact u2 a (by omega)
    · show f_X9_findSets_h2_b F _ _ _ _ _ = _
      unfold f_X9_findSets_h2_b
      by_cases e : x = 0
      · subst e
        simp (disch := omega) only [pn_lt, pn_ltM, pl_ofN, ↓pl_m1, pl_lit, fa_litL, pn_bs, ck_n, ckh_n, ck_t, ckh_t, nI_add, nI_clamp, nI_ltI, nI_leI, nI_eq, m1_eq, m1_eq2, m1_lt, m1_le, m1_lt2, m1_le2, m1_m1, nI_m1, nI_subn, gb_n, Nat.add_zero, Nat.zero_add, Nat.zero_or, Nat.or_zero, nle_f, nle_t, nlt_f, nlt_t, neq_f, neq_t, Bool.false_eq_true, eq_self, if_true, if_false, ite_true, ite_false, and_true, true_and, and_false, false_and, decide_true, decide_false, Bool.and_true, Bool.true_and, Bool.and_false, Bool.false_and, Bool.or_false, Bool.false_or, Bool.or_true, Bool.true_or, Bool.not_true, Bool.not_false, not_true_eq_false, not_false_eq_true, and1_1]
      · simp (disch := omega) only [pn_lt, pn_ltM, pl_ofN, ↓pl_m1, pl_lit, fa_litL, pn_bs, ck_n, ckh_n, ck_t, ckh_t, nI_add, nI_clamp, nI_ltI, nI_leI, nI_eq, m1_eq, m1_eq2, m1_lt, m1_le, m1_lt2, m1_le2, m1_m1, nI_m1, nI_subn, gb_n, Nat.add_zero, Nat.zero_add, Nat.zero_or, Nat.or_zero, nle_f, nle_t, nlt_f, nlt_t, neq_f, neq_t, Bool.false_eq_true, eq_self, if_true, if_false, ite_true, ite_false, and_true, true_and, and_false, false_and, decide_true, decide_false, Bool.and_true, Bool.true_and, Bool.and_false, Bool.false_and, Bool.or_false, Bool.false_or, Bool.or_true, Bool.true_or, Bool.not_true, Bool.not_false, not_true_eq_false, not_false_eq_true, and1_0, e]) 1024 0 M F (by omega) (by omega) ⟨fun _ _ _ => rfl, fun a ha => absurd ha (Nat.not_lt_zero _)⟩
  have hbig : ∀ N : gM, (∀ k j, k ≠ 113 → k ≠ 114 → N k j = M k j) → qMR D bn N := fun N hN => qMR_fr hW hQ (fun k j q => hN k j (by omega) (by omega))
  have b114 : bRR (fun a => ∃ c, CR D bn h 0 0 a c) N1 114 0 := fun a ha => by
    rw [Nat.zero_add, a2 a ha]
    by_cases e : a = 0
    · rw [if_pos e]
      exact .inl ⟨rfl, 0, e, rfl⟩
    · rw [if_neg e]
      exact .inr ⟨rfl, fun ⟨c, q⟩ => e q.1⟩
  obtain ⟨N2, ⟨b1, b2⟩, b3⟩ := up_inv (fun n s (N : gM) => f_X9_findSets_h32 F (nI 0) (nI h) n (nI s) N) (D 0 1) (fun s N => bRR (fun a => ∃ c, CR D bn h 0 s a c) N 114 0 ∧ (∀ k j, k ≠ 113 → k ≠ 114 → N k j = M k j)) (by
    rintro n s N hs ⟨u1, u2⟩
    obtain ⟨qT, qL, qS, qb⟩ := hbig N u2
    obtain ⟨c1, c2, c3⟩ := hW.1.2.2.2.2.1 s hs
    have v1 := (qT.2.2.2.2.2.2 s hs).2.2.2.1
    have v2 := qT.2.2.2.2.1
    by_cases e : D 9 s = h
    · obtain ⟨N', t1, t2, t3⟩ := e9_addScene hF hW hbn ⟨qT, qL, qS, qb⟩ hs u1
      refine ⟨N', ⟨bRR_of t2 (fun a ha => ?_), fun k j n1 n2 => by rw [t3 k j n1 n2, u2 k j n1 n2]⟩, ?_⟩
      · have := asQ_CR (bn := bn) hW (h := h) (u := 0) (k := s) (by rw [Nat.zero_add]; exact e) a
        rw [Nat.zero_add] at this
        exact this
      · show f_X9_findSets_h32_b F _ _ _ _ _ = _
        unfold f_X9_findSets_h32_b
        simp (disch := omega) only [pn_lt, pn_ltM, pl_ofN, ↓pl_m1, pl_lit, fa_litL, pn_bs, ck_n, ckh_n, ck_t, ckh_t, nI_add, nI_clamp, nI_ltI, nI_leI, nI_eq, m1_eq, m1_eq2, m1_lt, m1_le, m1_lt2, m1_le2, m1_m1, nI_m1, nI_subn, gb_n, Nat.add_zero, Nat.zero_add, Nat.zero_or, Nat.or_zero, nle_f, nle_t, nlt_f, nlt_t, neq_f, neq_t, Bool.false_eq_true, eq_self, if_true, if_false, ite_true, ite_false, and_true, true_and, and_false, false_and, decide_true, decide_false, Bool.and_true, Bool.true_and, Bool.and_false, Bool.false_and, Bool.or_false, Bool.false_or, Bool.or_true, Bool.true_or, Bool.not_true, Bool.not_false, not_true_eq_false, not_false_eq_true, v1, v2, e, t1]
    · refine ⟨N, ⟨bRR_of u1 (fun a ha => ?_), u2⟩, ?_⟩
      · have e2 : D 9 (0 + s) ≠ h := by rw [Nat.zero_add]; exact e
        constructor
        · rintro ⟨c, q⟩
          exact ⟨c, (CR_no e2).mpr q⟩
        · rintro ⟨c, q⟩
          exact ⟨c, (CR_no e2).mp q⟩
      · show f_X9_findSets_h32_b F _ _ _ _ _ = _
        unfold f_X9_findSets_h32_b
        simp (disch := omega) only [pn_lt, pn_ltM, pl_ofN, ↓pl_m1, pl_lit, fa_litL, pn_bs, ck_n, ckh_n, ck_t, ckh_t, nI_add, nI_clamp, nI_ltI, nI_leI, nI_eq, m1_eq, m1_eq2, m1_lt, m1_le, m1_lt2, m1_le2, m1_m1, nI_m1, nI_subn, gb_n, Nat.add_zero, Nat.zero_add, Nat.zero_or, Nat.or_zero, nle_f, nle_t, nlt_f, nlt_t, neq_f, neq_t, Bool.false_eq_true, eq_self, if_true, if_false, ite_true, ite_false, and_true, true_and, and_false, false_and, decide_true, decide_false, Bool.and_true, Bool.true_and, Bool.and_false, Bool.false_and, Bool.or_false, Bool.false_or, Bool.or_true, Bool.true_or, Bool.not_true, Bool.not_false, not_true_eq_false, not_false_eq_true, v1, v2, e]) (D 0 1) 0 N1 F (by omega) (by omega) ⟨b114, fun k j n1 n2 => a1 k j n2⟩
  obtain ⟨N3, ⟨c1, c2⟩, c3⟩ := up_inv (fun n x (N : gM) => f_X9_findSets_h66 F (nI 0) (nI h) n (nI x) N) 1024 (fun x N => (∀ a, a < x → N 111 (1024 * h + a) = N2 114 a) ∧ (∀ k j, ¬ (k = 111 ∧ 1024 * h ≤ j ∧ j < 1024 * h + 1024) → N k j = N2 k j)) (by
    rintro n x N hx ⟨u1, u2⟩
    have v := u2 114 x (by omega)
    have v2 : N2 114 x &&& nI 1 = N2 114 x := by
      rcases b1 x hx with ⟨p1, -⟩ | ⟨p1, -⟩ <;> rw [Nat.zero_add] at p1 <;> rw [p1]
      · exact and1_1
      · exact and1_0
    refine ⟨gst N 111 (1024 * h + x) (N2 114 x), ⟨fun a ha => ?_, fun k j n1 => ?_⟩, ?_⟩
    · rw [gst_v]
      by_cases e : a = x
      · rw [if_pos ⟨rfl, by omega⟩, e]
      · rw [if_neg (by omega)]
        exact u1 a (by omega)
    · rw [gst_v, if_neg (by omega)]
      exact u2 k j n1
    · have e1 : nI 1024 * nI h = nI (1024 * h) := pk_mul _ _
      show f_X9_findSets_h66_b F _ _ _ _ _ = _
      unfold f_X9_findSets_h66_b
      simp (disch := omega) only [pn_lt, pn_ltM, pl_ofN, ↓pl_m1, pl_lit, fa_litL, pn_bs, ck_n, ckh_n, ck_t, ckh_t, nI_add, nI_clamp, nI_ltI, nI_leI, nI_eq, m1_eq, m1_eq2, m1_lt, m1_le, m1_lt2, m1_le2, m1_m1, nI_m1, nI_subn, gb_n, Nat.add_zero, Nat.zero_add, Nat.zero_or, Nat.or_zero, nle_f, nle_t, nlt_f, nlt_t, neq_f, neq_t, Bool.false_eq_true, eq_self, if_true, if_false, ite_true, ite_false, and_true, true_and, and_false, false_and, decide_true, decide_false, Bool.and_true, Bool.true_and, Bool.and_false, Bool.false_and, Bool.or_false, Bool.false_or, Bool.or_true, Bool.true_or, Bool.not_true, Bool.not_false, not_true_eq_false, not_false_eq_true, e1, v, v2]) 1024 0 N2 F (by omega) (by omega) ⟨fun a ha => absurd ha (Nat.not_lt_zero _), fun _ _ _ => rfl⟩
  refine ⟨N3, ?_, fun a ha => ?_, fun k j n1 n2 n3 => by rw [c2 k j n3, b2 k j n1 n2]⟩
  · unfold f_X9_findSets
    refine a4.trans ?_
    obtain ⟨n', en⟩ : ∃ n', F - 1024 = n' + 1 := ⟨F - 1025, by omega⟩
    rw [en]
    show f_X9_findSets_h2_b F _ _ _ _ _ = _
    unfold f_X9_findSets_h2_b
    rw [if_pos (by rw [show (1024 : Int32) = nI 1024 from rfl, nI_leI (by omega) (by omega)]; omega)]
    refine b3.trans ?_
    obtain ⟨n2, en2⟩ : ∃ n2, F - D 0 1 = n2 + 1 := ⟨F - D 0 1 - 1, by omega⟩
    rw [en2]
    show f_X9_findSets_h32_b F _ _ _ _ _ = _
    unfold f_X9_findSets_h32_b
    have v1 := (hbig N2 b2).1.2.2.2.2.1
    have hlast : f_X9_findSets_h66 F (nI 0) (nI h) F (nI 0) N2 = some N3 := by
      refine c3.trans ?_
      rw [en]
      show f_X9_findSets_h66_b F _ _ _ _ _ = _
      unfold f_X9_findSets_h66_b
      simp (disch := omega) only [pn_lt, pn_ltM, pl_ofN, ↓pl_m1, pl_lit, fa_litL, pn_bs, ck_n, ckh_n, ck_t, ckh_t, nI_add, nI_clamp, nI_ltI, nI_leI, nI_eq, m1_eq, m1_eq2, m1_lt, m1_le, m1_lt2, m1_le2, m1_m1, nI_m1, nI_subn, gb_n, Nat.add_zero, Nat.zero_add, Nat.zero_or, Nat.or_zero, nle_f, nle_t, nlt_f, nlt_t, neq_f, neq_t, Bool.false_eq_true, eq_self, if_true, if_false, ite_true, ite_false, and_true, true_and, and_false, false_and, decide_true, decide_false, Bool.and_true, Bool.true_and, Bool.and_false, Bool.false_and, Bool.or_false, Bool.false_or, Bool.or_true, Bool.true_or, Bool.not_true, Bool.not_false, not_true_eq_false, not_false_eq_true]
    simp (disch := omega) only [pn_lt, pn_ltM, pl_ofN, ↓pl_m1, pl_lit, fa_litL, pn_bs, ck_n, ckh_n, ck_t, ckh_t, nI_add, nI_clamp, nI_ltI, nI_leI, nI_eq, m1_eq, m1_eq2, m1_lt, m1_le, m1_lt2, m1_le2, m1_m1, nI_m1, nI_subn, gb_n, Nat.add_zero, Nat.zero_add, Nat.zero_or, Nat.or_zero, nle_f, nle_t, nlt_f, nlt_t, neq_f, neq_t, Bool.false_eq_true, eq_self, if_true, if_false, ite_true, ite_false, and_true, true_and, and_false, false_and, decide_true, decide_false, Bool.and_true, Bool.true_and, Bool.and_false, Bool.false_and, Bool.or_false, Bool.false_or, Bool.or_true, Bool.true_or, Bool.not_true, Bool.not_false, not_true_eq_false, not_false_eq_true, v1, hlast]
  · rw [c1 a ha]
    have := b1 a ha
    rw [Nat.zero_add] at this
    exact this
theorem e9_findAllSets (hF : 4000 ≤ F) (hW : qWF D) (hbn : bn < 1024) (hQ : qMR D bn M) :
    ∃ M', f_X9_findAllSets F (nI 0) M = some M' ∧ (∀ h, h < 12 → bRR (fun a => ∃ c, CR D bn h 0 (D 0 1) a c) M' 111 (1024 * h)) ∧ (∀ k j, k ≠ 111 → k ≠ 113 → k ≠ 114 → M' k j = M k j) := by
  obtain ⟨N1, ⟨a1, a2⟩, a4⟩ := up_inv (fun n x (N : gM) => f_X9_findAllSets_h2 F (nI 0) n (nI x) N) 12 (fun x N => (∀ h, h < x → bRR (fun a => ∃ c, CR D bn h 0 (D 0 1) a c) N 111 (1024 * h)) ∧ (∀ k j, k ≠ 111 → k ≠ 113 → k ≠ 114 → N k j = M k j)) (by
    rintro n x N hx ⟨u1, u2⟩
    have hq : qMR D bn N := qMR_fr hW hQ (fun k j q => u2 k j (by omega) (by omega) (by omega))
    obtain ⟨N', t1, t2, t3⟩ := e9_findSets hF hW hbn hq hx
    refine ⟨N', ⟨fun h hh => ?_, fun k j n1 n2 n3 => by rw [t3 k j n2 n3 (by omega), u2 k j n1 n2 n3]⟩, ?_⟩
    · by_cases e : h = x
      · rw [e]; exact t2
      · exact bRR_fr (u1 h (by omega)) (fun a ha => t3 _ _ (by omega) (by omega) (by omega))
    · show f_X9_findAllSets_h2_b F _ _ _ _ = _
      unfold f_X9_findAllSets_h2_b
      simp (disch := omega) only [pn_lt, pn_ltM, pl_ofN, ↓pl_m1, pl_lit, fa_litL, pn_bs, ck_n, ckh_n, ck_t, ckh_t, nI_add, nI_clamp, nI_ltI, nI_leI, nI_eq, m1_eq, m1_eq2, m1_lt, m1_le, m1_lt2, m1_le2, m1_m1, nI_m1, nI_subn, gb_n, Nat.add_zero, Nat.zero_add, Nat.zero_or, Nat.or_zero, nle_f, nle_t, nlt_f, nlt_t, neq_f, neq_t, Bool.false_eq_true, eq_self, if_true, if_false, ite_true, ite_false, and_true, true_and, and_false, false_and, decide_true, decide_false, Bool.and_true, Bool.true_and, Bool.and_false, Bool.false_and, Bool.or_false, Bool.false_or, Bool.or_true, Bool.true_or, Bool.not_true, Bool.not_false, not_true_eq_false, not_false_eq_true, t1]) 12 0 M F (by omega) (by omega) ⟨fun h hh => absurd hh (Nat.not_lt_zero _), fun _ _ _ _ _ => rfl⟩
  refine ⟨N1, ?_, a1, a2⟩
  unfold f_X9_findAllSets
  refine a4.trans ?_
  obtain ⟨n', en⟩ : ∃ n', F - 12 = n' + 1 := ⟨F - 13, by omega⟩
  rw [en]
  show f_X9_findAllSets_h2_b F _ _ _ _ = _
  unfold f_X9_findAllSets_h2_b
  simp (disch := omega) only [pn_lt, pn_ltM, pl_ofN, ↓pl_m1, pl_lit, fa_litL, pn_bs, ck_n, ckh_n, ck_t, ckh_t, nI_add, nI_clamp, nI_ltI, nI_leI, nI_eq, m1_eq, m1_eq2, m1_lt, m1_le, m1_lt2, m1_le2, m1_m1, nI_m1, nI_subn, gb_n, Nat.add_zero, Nat.zero_add, Nat.zero_or, Nat.or_zero, nle_f, nle_t, nlt_f, nlt_t, neq_f, neq_t, Bool.false_eq_true, eq_self, if_true, if_false, ite_true, ite_false, and_true, true_and, and_false, false_and, decide_true, decide_false, Bool.and_true, Bool.true_and, Bool.and_false, Bool.false_and, Bool.or_false, Bool.false_or, Bool.or_true, Bool.true_or, Bool.not_true, Bool.not_false, not_true_eq_false, not_false_eq_true]
/-- can the scenes from the u-th on be dressed in just this set -/
theorem e9_canRest (hF : 4000 ≤ F) (hW : qWF D) (hbn : bn < 1024) (hQ : qMR D bn M) {h u a : Nat} (hh : h < 12) (hu : u ≤ D 0 1) (ha : a < 1024) :
    ∃ M' r, f_X9_canRest F (nI u) (nI h) (nI a) M = some (nI r, M') ∧ (r = 1 ∧ (∃ c, CR D bn h u (D 0 1 - u) a c) ∨ r = 0 ∧ ¬ ∃ c, CR D bn h u (D 0 1 - u) a c) ∧ (∀ k j, k ≠ 113 → k ≠ 114 → M' k j = M k j) := by
  have hs8 := hW.1.2.1
  obtain ⟨N1, ⟨a1, a2⟩, a4⟩ := up_inv (fun n x (N : gM) => f_X9_canRest_h3 F (nI u) (nI h) (nI a) n (nI x) N) 1024 (fun x N => (∀ k j, k ≠ 114 → N k j = M k j) ∧ (∀ b, b < x → N 114 b = nI (if b = 0 then 1 else 0))) (by
    rintro n x N hx ⟨u1, u2⟩
    refine ⟨gst N 114 x (nI (if x = 0 then 1 else 0)), ⟨fun k j n1 => ?_, fun a ha => ?_⟩, ?_⟩
    · rw [gst_v, if_neg (by omega)]
      exact u1 k j n1
    · rw [gst_v]
      by_cases e : a = x
      · rw [if_pos ⟨rfl, e⟩, e]
      · rw [if_neg (fun y => e y.2)]
        exact u2 a (by omega)
    · show f_X9_canRest_h3_b F _ _ _ _ _ _ = _
      unfold f_X9_canRest_h3_b
      by_cases e : x = 0
      · subst e
        simp (disch := omega) only [pn_lt, pn_ltM, pl_ofN, ↓pl_m1, pl_lit, fa_litL, pn_bs, ck_n, ckh_n, ck_t, ckh_t, nI_add, nI_clamp, nI_ltI, nI_leI, nI_eq, m1_eq, m1_eq2, m1_lt, m1_le, m1_lt2, m1_le2, m1_m1, nI_m1, nI_subn, gb_n, Nat.add_zero, Nat.zero_add, Nat.zero_or, Nat.or_zero, nle_f, nle_t, nlt_f, nlt_t, neq_f, neq_t, Bool.false_eq_true, eq_self, if_true, if_false, ite_true, ite_false, and_true, true_and, and_false, false_and, decide_true, decide_false, Bool.and_true, Bool.true_and, Bool.and_false, Bool.false_and, Bool.or_false, Bool.false_or, Bool.or_true, Bool.true_or, Bool.not_true, Bool.not_false, not_true_eq_false, not_false_eq_true, and1_1]
      · simp (disch := omega) only [pn_lt, pn_ltM, pl_ofN, ↓pl_m1, pl_lit, fa_litL, pn_bs, ck_n, ckh_n, ck_t, ckh_t, nI_add, nI_clamp, nI_ltI, nI_leI, nI_eq, m1_eq, m1_eq2, m1_lt, m1_le, m1_lt2, m1_le2, m1_m1, nI_m1, nI_subn, gb_n, Nat.add_zero, Nat.zero_add, Nat.zero_or, Nat.or_zero, nle_f, nle_t, nlt_f, nlt_t, neq_f, neq_t, Bool.false_eq_true, eq_self, if_true, if_false, ite_true, ite_false, and_true, true_and, and_false, false_and, decide_true, decide_false, Bool.and_true, Bool.true_and, Bool.and_false, Bool.false_and, Bool.or_false, Bool.false_or, Bool.or_true, Bool.true_or, Bool.not_true, Bool.not_false, not_true_eq_false, not_false_eq_true, and1_0, e]) 1024 0 M F (by omega) (by omega) ⟨fun _ _ _ => rfl, fun a ha => absurd ha (Nat.not_lt_zero _)⟩
  have hbig : ∀ N : gM, (∀ k j, k ≠ 113 → k ≠ 114 → N k j = M k j) → qMR D bn N := fun N hN => qMR_fr hW hQ (fun k j q => hN k j (by omega) (by omega))
  have b114 : bRR (fun a => ∃ c, CR D bn h u 0 a c) N1 114 0 := fun a ha => by
    rw [Nat.zero_add, a2 a ha]
    by_cases e : a = 0
    · rw [if_pos e]
      exact .inl ⟨rfl, 0, e, rfl⟩
    · rw [if_neg e]
      exact .inr ⟨rfl, fun ⟨c, q⟩ => e q.1⟩
  obtain ⟨N2, ⟨b1, b2⟩, b3⟩ := up_inv (fun n s (N : gM) => f_X9_canRest_h37 F (nI u) (nI h) (nI a) n (nI (u + s)) N) (D 0 1 - u) (fun s N => bRR (fun a => ∃ c, CR D bn h u s a c) N 114 0 ∧ (∀ k j, k ≠ 113 → k ≠ 114 → N k j = M k j)) (by
    rintro n s N hs ⟨u1, u2⟩
    have hs' : u + s < D 0 1 := by omega
    have eu : u + (s + 1) = u + s + 1 := rfl
    obtain ⟨qT, qL, qS, qb⟩ := hbig N u2
    obtain ⟨c1, c2, c3⟩ := hW.1.2.2.2.2.1 (u + s) hs'
    have v1 := (qT.2.2.2.2.2.2 (u + s) hs').2.2.2.1
    have v2 := qT.2.2.2.2.1
    by_cases e : D 9 (u + s) = h
    · obtain ⟨N', t1, t2, t3⟩ := e9_addScene hF hW hbn ⟨qT, qL, qS, qb⟩ hs' u1
      refine ⟨N', ⟨bRR_of t2 (fun a ha => asQ_CR hW e a), fun k j n1 n2 => by rw [t3 k j n1 n2, u2 k j n1 n2]⟩, ?_⟩
      show f_X9_canRest_h37_b F _ _ _ _ _ _ = _
      unfold f_X9_canRest_h37_b
      simp (disch := omega) only [pn_lt, pn_ltM, pl_ofN, ↓pl_m1, pl_lit, fa_litL, pn_bs, ck_n, ckh_n, ck_t, ckh_t, nI_add, nI_clamp, nI_ltI, nI_leI, nI_eq, m1_eq, m1_eq2, m1_lt, m1_le, m1_lt2, m1_le2, m1_m1, nI_m1, nI_subn, gb_n, Nat.add_zero, Nat.zero_add, Nat.zero_or, Nat.or_zero, nle_f, nle_t, nlt_f, nlt_t, neq_f, neq_t, Bool.false_eq_true, eq_self, if_true, if_false, ite_true, ite_false, and_true, true_and, and_false, false_and, decide_true, decide_false, Bool.and_true, Bool.true_and, Bool.and_false, Bool.false_and, Bool.or_false, Bool.false_or, Bool.or_true, Bool.true_or, Bool.not_true, Bool.not_false, not_true_eq_false, not_false_eq_true, v1, v2, e, t1, eu]
    · refine ⟨N, ⟨bRR_of u1 (fun a ha => ?_), u2⟩, ?_⟩
      · constructor
        · rintro ⟨c, q⟩
          exact ⟨c, (CR_no e).mpr q⟩
        · rintro ⟨c, q⟩
          exact ⟨c, (CR_no e).mp q⟩
      · show f_X9_canRest_h37_b F _ _ _ _ _ _ = _
        unfold f_X9_canRest_h37_b
        simp (disch := omega) only [pn_lt, pn_ltM, pl_ofN, ↓pl_m1, pl_lit, fa_litL, pn_bs, ck_n, ckh_n, ck_t, ckh_t, nI_add, nI_clamp, nI_ltI, nI_leI, nI_eq, m1_eq, m1_eq2, m1_lt, m1_le, m1_lt2, m1_le2, m1_m1, nI_m1, nI_subn, gb_n, Nat.add_zero, Nat.zero_add, Nat.zero_or, Nat.or_zero, nle_f, nle_t, nlt_f, nlt_t, neq_f, neq_t, Bool.false_eq_true, eq_self, if_true, if_false, ite_true, ite_false, and_true, true_and, and_false, false_and, decide_true, decide_false, Bool.and_true, Bool.true_and, Bool.and_false, Bool.false_and, Bool.or_false, Bool.false_or, Bool.or_true, Bool.true_or, Bool.not_true, Bool.not_false, not_true_eq_false, not_false_eq_true, v1, v2, e, eu]) (D 0 1 - u) 0 N1 F (by omega) (by omega) ⟨b114, fun k j n1 n2 => a1 k j n2⟩
  have hend : f_X9_canRest F (nI u) (nI h) (nI a) M = ck (gb (N2 114 a)) (some (N2 114 a, N2)) := by
    unfold f_X9_canRest
    refine a4.trans ?_
    obtain ⟨n', en⟩ : ∃ n', F - 1024 = n' + 1 := ⟨F - 1025, by omega⟩
    rw [en]
    show f_X9_canRest_h3_b F _ _ _ _ _ _ = _
    unfold f_X9_canRest_h3_b
    rw [if_pos (by rw [show (1024 : Int32) = nI 1024 from rfl, nI_leI (by omega) (by omega)]; omega)]
    refine b3.trans ?_
    obtain ⟨n2, en2⟩ : ∃ n2, F - (D 0 1 - u) = n2 + 1 := ⟨F - (D 0 1 - u) - 1, by omega⟩
    rw [en2]
    show f_X9_canRest_h37_b F _ _ _ _ _ _ = _
    unfold f_X9_canRest_h37_b
    have v1 := (hbig N2 b2).1.2.2.2.2.1
    have e5 : u + (D 0 1 - u) = D 0 1 := by omega
    simp (disch := omega) only [pn_lt, pn_ltM, pl_ofN, ↓pl_m1, pl_lit, fa_litL, pn_bs, ck_n, ckh_n, ck_t, ckh_t, nI_add, nI_clamp, nI_ltI, nI_leI, nI_eq, m1_eq, m1_eq2, m1_lt, m1_le, m1_lt2, m1_le2, m1_m1, nI_m1, nI_subn, gb_n, Nat.add_zero, Nat.zero_add, Nat.zero_or, Nat.or_zero, nle_f, nle_t, nlt_f, nlt_t, neq_f, neq_t, Bool.false_eq_true, eq_self, if_true, if_false, ite_true, ite_false, and_true, true_and, and_false, false_and, decide_true, decide_false, Bool.and_true, Bool.true_and, Bool.and_false, Bool.false_and, Bool.or_false, Bool.false_or, Bool.or_true, Bool.true_or, Bool.not_true, Bool.not_false, not_true_eq_false, not_false_eq_true, v1, e5]
  have hv := b1 a ha
  rw [Nat.zero_add] at hv
  rcases hv with ⟨h1, h2⟩ | ⟨h1, h2⟩
  · refine ⟨N2, 1, ?_, .inl ⟨rfl, h2⟩, b2⟩
    rw [hend, h1, gb_n (by omega), ck_t]
  · refine ⟨N2, 0, ?_, .inr ⟨rfl, h2⟩, b2⟩
    rw [hend, h1, gb_n (by omega), ck_t]
end EV
