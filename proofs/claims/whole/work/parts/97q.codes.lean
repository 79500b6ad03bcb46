/-! codes: the first look of the first scene -/
theorem set_eq {a b : Nat} (h : ∀ p, a.testBit p = b.testBit p) : a = b := Nat.eq_of_testBit_eq h
theorem and0_of {a b : Nat} (h : ∀ p, ¬ (a.testBit p = true ∧ b.testBit p = true)) : a &&& b = 0 := by
  apply set_eq
  intro p
  rw [Nat.testBit_and, Nat.zero_testBit]
  have := h p
  cases q : a.testBit p <;> cases r : b.testBit p <;> rw [q, r] at this <;> simp at this ⊢
theorem or_andn {a m : Nat} (h : andn m a = 0) : andn a m ||| m = a := by
  apply set_eq
  intro p
  rw [Nat.testBit_or, andn_bit]
  have := andn_zero.mp h p
  cases q : a.testBit p <;> cases r : m.testBit p <;> rw [q, r] at this <;> simp at this ⊢
theorem andn_or {b m : Nat} (h : b &&& m = 0) : andn (b ||| m) m = b := by
  apply set_eq
  intro p
  rw [andn_bit, Nat.testBit_or]
  have := and0_bit (p := p) h
  cases q : b.testBit p <;> cases r : m.testBit p <;> rw [q, r] at this <;> simp at this ⊢
theorem andn_sub {a m : Nat} : andn m (a ||| m) = 0 := andn_zero.mpr (fun p hp => by rw [Nat.testBit_or, hp, Bool.or_true])
section CD
variable {D : Nat → Nat → Nat} {bn h : Nat}
theorem CR_front (u : Nat) : ∀ k a c, CR D bn h u (k + 1) a c ↔ if D 9 u = h then ∃ i c', i < D 0 9 ∧ lfB D bn i u = true ∧ andn (qmk D i) a = 0 ∧ CR D bn h (u + 1) k (andn a (qmk D i)) c' ∧ c = i * 64 ^ hk D h (u + 1) k + c' else CR D bn h (u + 1) k a c
  | 0, a, c => by
    by_cases e : D 9 u = h
    · rw [if_pos e, CR_yes (show D 9 (u + 0) = h from e)]
      constructor
      · rintro ⟨i, a', c', h1, h2, ⟨h3, h4⟩, h5, h6, h7⟩
        subst h3; subst h4
        rw [Nat.zero_or] at h6
        refine ⟨i, 0, h1, h2, by rw [h6]; exact andn_zero.mpr (fun p hp => hp), ⟨?_, rfl⟩, ?_⟩
        · rw [h6]; exact andn_zero.mpr (fun p hp => hp)
        · show c = i * 64 ^ 0 + 0
          omega
      · rintro ⟨i, c', h1, h2, h3, ⟨h4, h5⟩, h6⟩
        refine ⟨i, 0, 0, h1, h2, ⟨rfl, rfl⟩, Nat.zero_and _, ?_, ?_⟩
        · rw [← or_andn h3, h4]
        · have h7 : c = i * 64 ^ 0 + c' := h6
          omega
    · rw [if_neg e, CR_no (show D 9 (u + 0) ≠ h from e)]
      exact Iff.rfl
  | k + 1, a, c => by
    have ih := CR_front u k
    have e1 : u + 1 + k = u + (k + 1) := by omega
    by_cases e2 : D 9 (u + (k + 1)) = h
    · have e3 : D 9 (u + 1 + k) = h := by rw [e1]; exact e2
      rw [CR_yes e2]
      by_cases e : D 9 u = h
      · rw [if_pos e]
        simp only [if_pos e] at ih
        have e4 : 64 ^ hk D h (u + 1) (k + 1) = 64 ^ hk D h (u + 1) k * 64 := by rw [hk_s, if_pos e3, Nat.pow_succ]
        constructor
        · rintro ⟨j, a', c', h1, h2, h3, h4, h5, h6⟩
          obtain ⟨i, c2, g1, g2, g3, g4, g5⟩ := (ih a' c').mp h3
          have hm := andn_zero.mp g3
          refine ⟨i, c2 * 64 + j, g1, g2, ?_, (CR_yes e3).mpr ⟨j, andn a' (qmk D i), c2, h1, by rw [e1]; exact h2, g4, ?_, ?_, rfl⟩, ?_⟩
          · rw [h5]
            exact andn_zero.mpr (fun p hp => by rw [Nat.testBit_or, hm p hp, Bool.true_or])
          · refine and0_of (fun p => ?_)
            rintro ⟨q1, q2⟩
            rw [andn_bit, Bool.and_eq_true] at q1
            exact and0_bit h4 ⟨q1.1, q2⟩
          · rw [h5]
            apply set_eq
            intro p
            rw [andn_bit, Nat.testBit_or, Nat.testBit_or, andn_bit]
            have y1 := hm p
            have y2 := and0_bit (p := p) h4
            cases z1 : a'.testBit p <;> cases z2 : (qmk D i).testBit p <;> cases z3 : (qmk D j).testBit p <;> rw [z1, z2] at y1 <;> rw [z1, z3] at y2 <;> simp at y1 y2 ⊢
          · rw [h6, g5, e4, Nat.add_mul, Nat.mul_assoc, Nat.add_assoc]
        · rintro ⟨i, c', g1, g2, g3, g4, g5⟩
          obtain ⟨j, b, c2, h1, h2, h3, h4, h5, h6⟩ := (CR_yes e3).mp g4
          have hm := andn_zero.mp g3
          have hbit : ∀ p, (a.testBit p && !(qmk D i).testBit p) = (b.testBit p || (qmk D j).testBit p) := fun p => by
            rw [← andn_bit, h5, Nat.testBit_or]
          have hbi : b &&& qmk D i = 0 := and0_of (fun p => by
            rintro ⟨q1, q2⟩
            have := hbit p
            rw [q1, q2] at this
            simp at this)
          refine ⟨j, b ||| qmk D i, i * 64 ^ hk D h (u + 1) k + c2, h1, by rw [← e1]; exact h2, (ih _ _).mpr ⟨i, c2, g1, g2, andn_sub, by rw [andn_or hbi]; exact h3, rfl⟩, ?_, ?_, ?_⟩
          · refine and0_of (fun p => ?_)
            rintro ⟨q1, q2⟩
            rw [Nat.testBit_or] at q1
            have y1 := hbit p
            have y2 := and0_bit (p := p) h4
            rw [q2] at y1 y2
            cases z1 : b.testBit p <;> cases z2 : (qmk D i).testBit p <;> rw [z1, z2] at q1 <;> rw [z2] at y1 <;> rw [z1] at y2 <;> simp at q1 y1 y2
          · apply set_eq
            intro p
            rw [Nat.testBit_or, Nat.testBit_or]
            have y1 := hbit p
            have y2 := hm p
            cases z0 : a.testBit p <;> cases z1 : b.testBit p <;> cases z2 : (qmk D i).testBit p <;> cases z3 : (qmk D j).testBit p <;> rw [z0, z1, z2, z3] at y1 <;> rw [z0, z2] at y2 <;> simp at y1 y2 ⊢
          · rw [g5, h6, e4, Nat.add_mul, Nat.mul_assoc, Nat.add_assoc]
      · rw [if_neg e]
        simp only [if_neg e] at ih
        rw [CR_yes e3]
        constructor
        · rintro ⟨j, a', c', h1, h2, h3, h4⟩
          exact ⟨j, a', c', h1, by rw [e1]; exact h2, (ih a' c').mp h3, h4⟩
        · rintro ⟨j, a', c', h1, h2, h3, h4⟩
          exact ⟨j, a', c', h1, by rw [← e1]; exact h2, (ih a' c').mpr h3, h4⟩
    · have e3 : D 9 (u + 1 + k) ≠ h := by rw [e1]; exact e2
      rw [CR_no e2]
      by_cases e : D 9 u = h
      · rw [if_pos e]
        simp only [if_pos e] at ih
        have e4 : 64 ^ hk D h (u + 1) (k + 1) = 64 ^ hk D h (u + 1) k := by rw [hk_s, if_neg e3, Nat.add_zero]
        rw [ih, e4]
        constructor
        · rintro ⟨i, c', g1, g2, g3, g4, g5⟩
          exact ⟨i, c', g1, g2, g3, (CR_no e3).mpr g4, g5⟩
        · rintro ⟨i, c', g1, g2, g3, g4, g5⟩
          exact ⟨i, c', g1, g2, g3, (CR_no e3).mp g4, g5⟩
      · rw [if_neg e]
        simp only [if_neg e] at ih
        rw [ih]
        exact (CR_no e3).symm
/-- the least code -/
def minC (D : Nat → Nat → Nat) (bn h u k a c : Nat) : Prop := CR D bn h u k a c ∧ ∀ c', CR D bn h u k a c' → c ≤ c'
/-- the look i of the scene u leaves a way for the rest -/
def okL (D : Nat → Nat → Nat) (bn h u k a i : Nat) : Prop := andn (qmk D i) a = 0 ∧ lfB D bn i u = true ∧ ∃ c, CR D bn h (u + 1) k (andn a (qmk D i)) c
theorem minC_no {u k a c : Nat} (e : D 9 u ≠ h) (q : minC D bn h u (k + 1) a c) : minC D bn h (u + 1) k a c := by
  obtain ⟨q1, q2⟩ := q
  have f := CR_front (D := D) (bn := bn) (h := h) u k
  simp only [if_neg e] at f
  exact ⟨(f a c).mp q1, fun c' hc => q2 c' ((f a c').mpr hc)⟩
theorem minC_yes (h36 : D 0 9 ≤ 36) {u k a c : Nat} (e : D 9 u = h) (q : minC D bn h u (k + 1) a c) :
    c / 64 ^ hk D h (u + 1) k < D 0 9 ∧ okL D bn h u k a (c / 64 ^ hk D h (u + 1) k) ∧ minC D bn h (u + 1) k (andn a (qmk D (c / 64 ^ hk D h (u + 1) k))) (c % 64 ^ hk D h (u + 1) k) ∧ ∀ i, i < c / 64 ^ hk D h (u + 1) k → ¬ okL D bn h u k a i := by
  obtain ⟨q1, q2⟩ := q
  have f := CR_front (D := D) (bn := bn) (h := h) u k
  simp only [if_pos e] at f
  obtain ⟨i, c', g1, g2, g3, g4, g5⟩ := (f a c).mp q1
  have g6 := CR_code h36 g4
  have hpos : 0 < 64 ^ hk D h (u + 1) k := Nat.pow_pos (by omega)
  have e1 : c / 64 ^ hk D h (u + 1) k = i := by
    rw [g5, Nat.mul_comm, Nat.mul_add_div hpos, Nat.div_eq_of_lt g6, Nat.add_zero]
  have e2 : c % 64 ^ hk D h (u + 1) k = c' := by
    rw [g5, Nat.mul_comm, Nat.mul_add_mod, Nat.mod_eq_of_lt g6]
  rw [e1, e2]
  refine ⟨g1, ⟨g3, g2, c', g4⟩, ⟨g4, fun c2 hc2 => ?_⟩, fun j hj => ?_⟩
  · have := q2 _ ((f a _).mpr ⟨i, c2, g1, g2, g3, hc2, rfl⟩)
    omega
  · rintro ⟨o1, o2, c2, o3⟩
    have h1 := q2 _ ((f a _).mpr ⟨j, c2, by omega, o2, o1, o3, rfl⟩)
    have h2 := CR_code h36 o3
    have h3 : (j + 1) * 64 ^ hk D h (u + 1) k ≤ i * 64 ^ hk D h (u + 1) k := Nat.mul_le_mul_right _ hj
    rw [Nat.succ_mul] at h3
    omega
end CD
section EV
variable {F : Nat} {D : Nat → Nat → Nat} {M : gM} {bn : Nat}
theorem e9_firstLook (hF : 4000 ≤ F) (hW : qWF D) (hbn : bn = 0) (hQ : qMR D bn M) {t h left i0 : Nat} (ht : t < D 0 1) (hh : D 9 t = h) (hl : left < 1024) (hi0 : i0 < D 0 9) (hok : okL D bn h t (D 0 1 - (t + 1)) left i0) (hno : ∀ i, i < i0 → ¬ okL D bn h t (D 0 1 - (t + 1)) left i) :
    ∃ M', f_X9_firstLook F (nI t) (nI left) M = some (nI i0, M') ∧ (∀ k j, k ≠ 113 → k ≠ 114 → M' k j = M k j) := by
  have h36 := hW.2.1.1
  have hs8 := hW.1.2.1
  have hh11 : h ≤ 11 := by rw [← hh]; exact (hW.1.2.2.2.2.1 t ht).1
  have hbig : ∀ N : gM, (∀ k j, k ≠ 113 → k ≠ 114 → N k j = M k j) → qMR D bn N := fun N hN => qMR_fr hW hQ (fun k j q => hN k j (by omega) (by omega))
  obtain ⟨⟨y, N⟩, ⟨a1, a2, -⟩, a3⟩ := dn_inv (fun q c (s : Int32 × gM) => f_X9_firstLook_h10 F (nI t) (nI left) q s.1 (dn c) s.2) (fun c s => (c ≤ i0 → s.1 = nI i0) ∧ (∀ k j, k ≠ 113 → k ≠ 114 → s.2 k j = M k j) ∧ c ≤ D 0 9) (by
    rintro q c ⟨y, N⟩ ⟨u1, u2, u3⟩
    dsimp only at u1 u2
    have hc : c < D 0 9 := by omega
    obtain ⟨qT, qL, qS, qb⟩ := hbig N u2
    have v1 := (qL.2.2 c hc).2.2.2
    have hm := qmk_1024 hW hc
    have v2 := e9_isFor9 hF hW qT qS qb (by omega) hc ht
    have v3 : N 105 t = nI h := by rw [(qT.2.2.2.2.2.2 t ht).2.2.2.1, hh]
    have v4 : andn (qmk D c) left < 1024 := andn_1024 hm
    by_cases z1 : andn (qmk D c) left = 0
    · cases z2 : lfB D bn c t
      · refine ⟨(y, N), ⟨fun hci => ?_, u2, by omega⟩, ?_⟩
        · by_cases e : c = i0
          · rw [e] at z2
            have := hok.2.1
            rw [z2] at this
            exact absurd this (by decide)
          · exact u1 (by omega)
        · show f_X9_firstLook_h10_b F _ _ _ _ _ _ = f_X9_firstLook_h10 F (nI t) (nI left) q y (dn c) N
          unfold f_X9_firstLook_h10_b f_X9_firstLook_b49 f_X9_firstLook_b50
          rw [dn_s]
          simp (disch := omega) only [pn_lt, pn_ltM, pl_ofN, ↓pl_m1, pl_lit, fa_litL, pn_bs, ck_n, ckh_n, ck_t, ckh_t, nI_add, nI_clamp, nI_ltI, nI_leI, nI_eq, m1_eq, m1_eq2, m1_lt, m1_le, m1_lt2, m1_le2, m1_m1, nI_m1, nI_subn, gb_n, Nat.add_zero, Nat.zero_add, Nat.zero_or, Nat.or_zero, nle_f, nle_t, nlt_f, nlt_t, neq_f, neq_t, Bool.false_eq_true, eq_self, if_true, if_false, ite_true, ite_false, and_true, true_and, and_false, false_and, decide_true, decide_false, Bool.and_true, Bool.true_and, Bool.and_false, Bool.false_and, Bool.or_false, Bool.false_or, Bool.or_true, Bool.true_or, Bool.not_true, Bool.not_false, not_true_eq_false, not_false_eq_true, v1, nI_andn', z1, v2, z2, dn_m]
      · obtain ⟨N', r, t1, t2, t3⟩ := e9_canRest (h := h) (u := t + 1) (a := andn left (qmk D c)) hF hW (by omega : bn < 1024) ⟨qT, qL, qS, qb⟩ (by omega) (by omega) (andn_1024 hl)
        have hrun : ∀ y : Int32, f_X9_firstLook_h10 F (nI t) (nI left) (q + 1) y (dn (c + 1)) N = f_X9_firstLook_h10 F (nI t) (nI left) q (if r = 0 then y else nI c) (dn c) N' := fun y => by
          show f_X9_firstLook_h10_b F _ _ _ _ _ _ = _
          unfold f_X9_firstLook_h10_b f_X9_firstLook_b49 f_X9_firstLook_b50
          rw [dn_s]
          rcases t2 with ⟨t2, -⟩ | ⟨t2, -⟩ <;> subst t2
          · simp (disch := omega) only [pn_lt, pn_ltM, pl_ofN, ↓pl_m1, pl_lit, fa_litL, pn_bs, ck_n, ckh_n, ck_t, ckh_t, nI_add, nI_clamp, nI_ltI, nI_leI, nI_eq, m1_eq, m1_eq2, m1_lt, m1_le, m1_lt2, m1_le2, m1_m1, nI_m1, nI_subn, gb_n, Nat.add_zero, Nat.zero_add, Nat.zero_or, Nat.or_zero, nle_f, nle_t, nlt_f, nlt_t, neq_f, neq_t, Bool.false_eq_true, eq_self, if_true, if_false, ite_true, ite_false, and_true, true_and, and_false, false_and, decide_true, decide_false, Bool.and_true, Bool.true_and, Bool.and_false, Bool.false_and, Bool.or_false, Bool.false_or, Bool.or_true, Bool.true_or, Bool.not_true, Bool.not_false, not_true_eq_false, not_false_eq_true, v1, nI_andn', z1, v2, z2, dn_m, v3, t1]
          · simp (disch := omega) only [pn_lt, pn_ltM, pl_ofN, ↓pl_m1, pl_lit, fa_litL, pn_bs, ck_n, ckh_n, ck_t, ckh_t, nI_add, nI_clamp, nI_ltI, nI_leI, nI_eq, m1_eq, m1_eq2, m1_lt, m1_le, m1_lt2, m1_le2, m1_m1, nI_m1, nI_subn, gb_n, Nat.add_zero, Nat.zero_add, Nat.zero_or, Nat.or_zero, nle_f, nle_t, nlt_f, nlt_t, neq_f, neq_t, Bool.false_eq_true, eq_self, if_true, if_false, ite_true, ite_false, and_true, true_and, and_false, false_and, decide_true, decide_false, Bool.and_true, Bool.true_and, Bool.and_false, Bool.false_and, Bool.or_false, Bool.false_or, Bool.or_true, Bool.true_or, Bool.not_true, Bool.not_false, not_true_eq_false, not_false_eq_true, v1, nI_andn', z1, v2, z2, dn_m, v3, t1]
        refine ⟨(if r = 0 then y else nI c, N'), ⟨fun hci => ?_, fun k j n1 n2 => ?_, by omega⟩, hrun y⟩
        · show (if r = 0 then y else nI c) = nI i0
          by_cases e : c = i0
          · rcases t2 with ⟨t2, t4⟩ | ⟨t2, t4⟩
            · rw [t2, if_neg (by omega), e]
            · exfalso
              apply t4
              rw [e]
              exact hok.2.2
          · rcases t2 with ⟨t2, t4⟩ | ⟨t2, t4⟩
            · exact absurd ⟨z1, z2, t4⟩ (hno c (by omega))
            · rw [t2, if_pos rfl]
              exact u1 (by omega)
        · show N' k j = _
          rw [t3 k j n1 n2, u2 k j n1 n2]
    · refine ⟨(y, N), ⟨fun hci => ?_, u2, by omega⟩, ?_⟩
      · by_cases e : c = i0
        · rw [e] at z1
          exact absurd hok.1 z1
        · exact u1 (by omega)
      · show f_X9_firstLook_h10_b F _ _ _ _ _ _ = f_X9_firstLook_h10 F (nI t) (nI left) q y (dn c) N
        unfold f_X9_firstLook_h10_b f_X9_firstLook_b49 f_X9_firstLook_b50
        rw [dn_s]
        simp (disch := omega) only [pn_lt, pn_ltM, pl_ofN, ↓pl_m1, pl_lit, fa_litL, pn_bs, ck_n, ckh_n, ck_t, ckh_t, nI_add, nI_clamp, nI_ltI, nI_leI, nI_eq, m1_eq, m1_eq2, m1_lt, m1_le, m1_lt2, m1_le2, m1_m1, nI_m1, nI_subn, gb_n, Nat.add_zero, Nat.zero_add, Nat.zero_or, Nat.or_zero, nle_f, nle_t, nlt_f, nlt_t, neq_f, neq_t, Bool.false_eq_true, eq_self, if_true, if_false, ite_true, ite_false, and_true, true_and, and_false, false_and, decide_true, decide_false, Bool.and_true, Bool.true_and, Bool.and_false, Bool.false_and, Bool.or_false, Bool.false_or, Bool.or_true, Bool.true_or, Bool.not_true, Bool.not_false, not_true_eq_false, not_false_eq_true, v1, nI_andn', z1, dn_m]) (D 0 9) (m1, M) F (by omega) ⟨fun q => by omega, fun _ _ _ _ => rfl, Nat.le_refl _⟩
  dsimp only at a1 a2 a3
  refine ⟨N, ?_, a2⟩
  unfold f_X9_firstLook
  have v := hQ.2.1.2.1
  rw [v, pn_lt, show (1 : Int32) = nI 1 from rfl, dn_sub]
  refine a3.trans ?_
  obtain ⟨n', en⟩ : ∃ n', F - D 0 9 = n' + 1 := ⟨F - D 0 9 - 1, by omega⟩
  rw [en]
  show f_X9_firstLook_h10_b F _ _ _ _ _ _ = _
  unfold f_X9_firstLook_h10_b
  rw [dn_0, if_pos (show m1 < (0 : Int32) by decide +kernel), a1 (Nat.zero_le _)]
theorem e9_lookOf (hF : 4000 ≤ F) (hW : qWF D) (hbn : bn = 0) (hQ : qMR D bn M) {s a c : Nat} (hs : s < D 0 1) (ha : a < 1024) (h115 : M 115 (D 9 s) = nI a) (hm : minC D bn (D 9 s) 0 (D 0 1) a c) :
    ∃ M', f_X9_lookOf F (nI s) M = some (nI (qmk D (c / 64 ^ hk D (D 9 s) (s + 1) (D 0 1 - (s + 1)) % 64)), M') ∧ c / 64 ^ hk D (D 9 s) (s + 1) (D 0 1 - (s + 1)) % 64 < D 0 9 ∧ (∀ k j, k ≠ 113 → k ≠ 114 → M' k j = M k j) := by
  have h36 := hW.2.1.1
  have hs8 := hW.1.2.1
  have hh11 : D 9 s ≤ 11 := (hW.1.2.2.2.2.1 s hs).1
  have hbig : ∀ N : gM, (∀ k j, k ≠ 113 → k ≠ 114 → N k j = M k j) → qMR D bn N := fun N hN => qMR_fr hW hQ (fun k j q => hN k j (by omega) (by omega))
  obtain ⟨⟨x2, x3, N⟩, ⟨⟨left, l1, l2, l3⟩, a2, a3⟩, a4⟩ := up_inv (fun q t (z : Int32 × Int32 × gM) => f_X9_lookOf_h17 F (nI s) q z.1 z.2.1 (nI t) z.2.2) (s + 1) (fun t z => (∃ left, z.1 = nI left ∧ left < 1024 ∧ minC D bn (D 9 s) t (D 0 1 - t) left (c % 64 ^ hk D (D 9 s) t (D 0 1 - t))) ∧ (t = s + 1 → z.2.1 = nI (c / 64 ^ hk D (D 9 s) (s + 1) (D 0 1 - (s + 1)) % 64) ∧ c / 64 ^ hk D (D 9 s) (s + 1) (D 0 1 - (s + 1)) % 64 < D 0 9) ∧ (∀ k j, k ≠ 113 → k ≠ 114 → z.2.2 k j = M k j)) (by
    rintro q t ⟨x2, x3, N⟩ ht ⟨⟨left, l1, l2, l3⟩, u2, u3⟩
    dsimp only at l1 u2 u3
    subst l1
    have htS : t < D 0 1 := by omega
    obtain ⟨qT, qL, qS, qb⟩ := hbig N u3
    have v1 : N 105 t = nI (D 9 t) := (qT.2.2.2.2.2.2 t htS).2.2.2.1
    have v2 : N 105 s = nI (D 9 s) := (qT.2.2.2.2.2.2 s hs).2.2.2.1
    have w1 := (hW.1.2.2.2.2.1 t htS).1
    have e0 : D 0 1 - t = D 0 1 - (t + 1) + 1 := by omega
    have e1 := hk_front D (D 9 s) t (D 0 1 - (t + 1))
    rw [← e0] at e1
    rw [e0] at l3
    rw [← e0] at l3
    by_cases e : D 9 t = D 9 s
    · rw [if_pos e] at e1
      rw [e0] at l3
      obtain ⟨m1', m2, m3, m4⟩ := minC_yes h36 e l3
      rw [← e0] at m1' m2 m3 m4
      have e5 : 64 ^ hk D (D 9 s) t (D 0 1 - t) = 64 ^ hk D (D 9 s) (t + 1) (D 0 1 - (t + 1)) * 64 := by rw [e1, Nat.add_comm, Nat.pow_succ]
      have d1 : c % 64 ^ hk D (D 9 s) t (D 0 1 - t) / 64 ^ hk D (D 9 s) (t + 1) (D 0 1 - (t + 1)) = c / 64 ^ hk D (D 9 s) (t + 1) (D 0 1 - (t + 1)) % 64 := by
        rw [e5, Nat.mod_mul_right_div_self]
      have d2 : c % 64 ^ hk D (D 9 s) t (D 0 1 - t) % 64 ^ hk D (D 9 s) (t + 1) (D 0 1 - (t + 1)) = c % 64 ^ hk D (D 9 s) (t + 1) (D 0 1 - (t + 1)) := by
        rw [e5, Nat.mod_mul_right_mod]
      rw [d1] at m1' m2 m3 m4
      rw [d2] at m3
      generalize hi0 : c / 64 ^ hk D (D 9 s) (t + 1) (D 0 1 - (t + 1)) % 64 = i0 at *
      obtain ⟨N', g1, g2⟩ := e9_firstLook hF hW hbn ⟨qT, qL, qS, qb⟩ htS e l2 m1' m2 m4
      have v3 : N' 110 i0 = nI (qmk D i0) := by rw [g2 _ _ (by omega) (by omega)]; exact (qL.2.2 i0 m1').2.2.2
      refine ⟨(nI (andn left (qmk D i0)), nI i0, N'), ⟨⟨_, rfl, andn_1024 l2, m3⟩, fun q => ?_, fun k j n1 n2 => ?_⟩, ?_⟩
      · have e9 : t = s := by omega
        subst e9
        rw [hi0]
        exact ⟨rfl, m1'⟩
      · show N' k j = _
        rw [g2 k j n1 n2, u3 k j n1 n2]
      · show f_X9_lookOf_h17_b F (nI s) (f_X9_lookOf_h17 F (nI s) q) (nI left) x3 (nI t) N = f_X9_lookOf_h17 F (nI s) q (nI (andn left (qmk D i0))) (nI i0) (nI (t + 1)) N'
        unfold f_X9_lookOf_h17_b
        simp (disch := omega) only [pn_lt, pn_ltM, pl_ofN, ↓pl_m1, pl_lit, fa_litL, pn_bs, ck_n, ckh_n, ck_t, ckh_t, nI_add, nI_clamp, nI_ltI, nI_leI, nI_eq, m1_eq, m1_eq2, m1_lt, m1_le, m1_lt2, m1_le2, m1_m1, nI_m1, nI_subn, gb_n, Nat.add_zero, Nat.zero_add, Nat.zero_or, Nat.or_zero, nle_f, nle_t, nlt_f, nlt_t, neq_f, neq_t, Bool.false_eq_true, eq_self, if_true, if_false, ite_true, ite_false, and_true, true_and, and_false, false_and, decide_true, decide_false, Bool.and_true, Bool.true_and, Bool.and_false, Bool.false_and, Bool.or_false, Bool.false_or, Bool.or_true, Bool.true_or, Bool.not_true, Bool.not_false, not_true_eq_false, not_false_eq_true, v1, v2, e, g1, v3, nI_andn']
    · rw [if_neg e, Nat.zero_add] at e1
      refine ⟨(nI left, x3, N), ⟨⟨left, rfl, l2, ?_⟩, fun q => ?_, u3⟩, ?_⟩
      · rw [e1, e0] at l3
        exact minC_no e l3
      · have e9 : t = s := by omega
        rw [e9] at e
        exact absurd rfl e
      · show f_X9_lookOf_h17_b F (nI s) (f_X9_lookOf_h17 F (nI s) q) (nI left) x3 (nI t) N = f_X9_lookOf_h17 F (nI s) q (nI left) x3 (nI (t + 1)) N
        unfold f_X9_lookOf_h17_b
        simp (disch := omega) only [pn_lt, pn_ltM, pl_ofN, ↓pl_m1, pl_lit, fa_litL, pn_bs, ck_n, ckh_n, ck_t, ckh_t, nI_add, nI_clamp, nI_ltI, nI_leI, nI_eq, m1_eq, m1_eq2, m1_lt, m1_le, m1_lt2, m1_le2, m1_m1, nI_m1, nI_subn, gb_n, Nat.add_zero, Nat.zero_add, Nat.zero_or, Nat.or_zero, nle_f, nle_t, nlt_f, nlt_t, neq_f, neq_t, Bool.false_eq_true, eq_self, if_true, if_false, ite_true, ite_false, and_true, true_and, and_false, false_and, decide_true, decide_false, Bool.and_true, Bool.true_and, Bool.and_false, Bool.false_and, Bool.or_false, Bool.false_or, Bool.or_true, Bool.true_or, Bool.not_true, Bool.not_false, not_true_eq_false, not_false_eq_true, v1, v2, e]) (s + 1) 0 (nI a, m1, M) F (by omega) (by omega) ⟨⟨a, rfl, ha, by
      have hc := CR_code h36 hm.1
      rw [Nat.sub_zero, Nat.mod_eq_of_lt hc]
      exact hm⟩, fun q => by omega, fun _ _ _ _ => rfl⟩
  dsimp only at l1 a2 a3 a4
  obtain ⟨b1, b2⟩ := a2 rfl
  refine ⟨N, ?_, b2, a3⟩
  have v1 : M 105 s = nI (D 9 s) := (hQ.1.2.2.2.2.2.2 s hs).2.2.2.1
  have v3 := ((hbig N a3).2.1.2.2 _ b2).2.2.2
  have hend : f_X9_lookOf_h17 F (nI s) F (nI a) m1 (nI 0) M = some (nI (qmk D (c / 64 ^ hk D (D 9 s) (s + 1) (D 0 1 - (s + 1)) % 64)), N) := by
    refine a4.trans ?_
    obtain ⟨n', en⟩ : ∃ n', F - (s + 1) = n' + 1 := ⟨F - (s + 1) - 1, by omega⟩
    rw [en, b1]
    show f_X9_lookOf_h17_b F _ _ _ _ _ _ = _
    unfold f_X9_lookOf_h17_b
    generalize c / 64 ^ hk D (D 9 s) (s + 1) (D 0 1 - (s + 1)) % 64 = i0 at *
    simp (disch := omega) only [pn_lt, pn_ltM, pl_ofN, ↓pl_m1, pl_lit, fa_litL, pn_bs, ck_n, ckh_n, ck_t, ckh_t, nI_add, nI_clamp, nI_ltI, nI_leI, nI_eq, m1_eq, m1_eq2, m1_lt, m1_le, m1_lt2, m1_le2, m1_m1, nI_m1, nI_subn, gb_n, Nat.add_zero, Nat.zero_add, Nat.zero_or, Nat.or_zero, nle_f, nle_t, nlt_f, nlt_t, neq_f, neq_t, Bool.false_eq_true, eq_self, if_true, if_false, ite_true, ite_false, and_true, true_and, and_false, false_and, decide_true, decide_false, Bool.and_true, Bool.true_and, Bool.and_false, Bool.false_and, Bool.or_false, Bool.false_or, Bool.or_true, Bool.true_or, Bool.not_true, Bool.not_false, not_true_eq_false, not_false_eq_true, v3]
  unfold f_X9_lookOf
  simp (disch := omega) only [pn_lt, pn_ltM, pl_ofN, ↓pl_m1, pl_lit, fa_litL, pn_bs, ck_n, ckh_n, ck_t, ckh_t, nI_add, nI_clamp, nI_ltI, nI_leI, nI_eq, m1_eq, m1_eq2, m1_lt, m1_le, m1_lt2, m1_le2, m1_m1, nI_m1, nI_subn, gb_n, Nat.add_zero, Nat.zero_add, Nat.zero_or, Nat.or_zero, nle_f, nle_t, nlt_f, nlt_t, neq_f, neq_t, Bool.false_eq_true, eq_self, if_true, if_false, ite_true, ite_false, and_true, true_and, and_false, false_and, decide_true, decide_false, Bool.and_true, Bool.true_and, Bool.and_false, Bool.false_and, Bool.or_false, Bool.false_or, Bool.or_true, Bool.true_or, Bool.not_true, Bool.not_false, not_true_eq_false, not_false_eq_true, v1, h115, hend]
end EV
