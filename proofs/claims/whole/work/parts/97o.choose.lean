/-! the class: costs, what is chosen -/
/-- the rows of an hour, without the codes -/
def hT (A : Nat → Nat → Bool) (n : Nat) (M : gM) (h cnt : Nat) (st : Nat → Nat) : Prop :=
  cnt ≤ 64 ∧ M 44 h = nI cnt ∧ (∀ k, k < cnt → M (46 + h) k = nI (st k) ∧ st k < 2 ^ n ∧ st k < 1024) ∧ (∀ i j, i < j → j < cnt → st i < st j) ∧ (∀ k, k < cnt → A h (st k) = true) ∧ (∀ a, A h a = true → ∃ k, k < cnt ∧ st k = a)
theorem hT_fr {A : Nat → Nat → Bool} {n : Nat} {M M' : gM} {h cnt : Nat} {st : Nat → Nat} (q : hT A n M h cnt st) (e : ∀ k j, 44 ≤ k → k ≤ 72 → M' k j = M k j) (hh : h < 13) : hT A n M' h cnt st := by
  obtain ⟨a1, a2, a3, a4, a5, a6⟩ := q
  exact ⟨a1, by rw [e _ _ (by omega) (by omega)]; exact a2, fun k hk => by rw [e _ _ (by omega) (by omega)]; exact a3 k hk, a4, a5, a6⟩
/-- what the set costs with all that is behind it -/
def cstN (A : Nat → Nat → Bool) (f : Nat → Nat) (n l h a : Nat) : Nat := if lcm A f n l (11 - h) a = 1000000 then 1000000000 else lcm A f n l (11 - h) a + sS f a n
/-- the first cheapest of the first k: one more than its number, its cost -/
def fcS (c : Nat → Nat) (ok : Nat → Bool) : Nat → Nat × Nat
  | 0 => (0, 1000000000)
  | k + 1 => if c k < (fcS c ok k).2 ∧ ok k = true then (k + 1, c k) else fcS c ok k
theorem fcS_P (c : Nat → Nat) (ok : Nat → Bool) : ∀ k, ((fcS c ok k).1 = 0 ∧ (fcS c ok k).2 = 1000000000 ∧ ∀ j, j < k → ok j = true → 1000000000 ≤ c j) ∨
    ∃ i, i < k ∧ (fcS c ok k).1 = i + 1 ∧ (fcS c ok k).2 = c i ∧ c i < 1000000000 ∧ ok i = true ∧ (∀ j, j < k → ok j = true → c i ≤ c j) ∧ ∀ j, j < i → ok j = true → c i < c j
  | 0 => .inl ⟨rfl, rfl, fun j hj => absurd hj (Nat.not_lt_zero _)⟩
  | k + 1 => by
    have ih := fcS_P c ok k
    have e : fcS c ok (k + 1) = if c k < (fcS c ok k).2 ∧ ok k = true then (k + 1, c k) else fcS c ok k := rfl
    rw [e]
    by_cases q : c k < (fcS c ok k).2 ∧ ok k = true
    · rw [if_pos q]
      obtain ⟨q1, q2⟩ := q
      right
      rcases ih with ⟨i1, i2, i3⟩ | ⟨i, i1, i2, i3, i4, i5, i6, i7⟩
      · refine ⟨k, by omega, rfl, rfl, by omega, q2, fun j hj hok => ?_, fun j hj hok => ?_⟩
        · by_cases z : j = k
          · rw [z]; omega
          · have := i3 j (by omega) hok
            omega
        · have := i3 j hj hok
          omega
      · refine ⟨k, by omega, rfl, rfl, by omega, q2, fun j hj hok => ?_, fun j hj hok => ?_⟩
        · by_cases z : j = k
          · rw [z]; omega
          · have := i6 j (by omega) hok
            omega
        · have := i6 j hj hok
          omega
    · rw [if_neg q]
      rcases ih with ⟨i1, i2, i3⟩ | ⟨i, i1, i2, i3, i4, i5, i6, i7⟩
      · refine .inl ⟨i1, i2, fun j hj hok => ?_⟩
        by_cases z : j = k
        · subst z
          rcases Nat.lt_or_ge (c j) (fcS c ok j).2 with y | y
          · exact absurd ⟨y, hok⟩ q
          · omega
        · exact i3 j (by omega) hok
      · refine .inr ⟨i, by omega, i2, i3, i4, i5, fun j hj hok => ?_, i7⟩
        by_cases z : j = k
        · subst z
          rcases Nat.lt_or_ge (c j) (fcS c ok j).2 with y | y
          · exact absurd ⟨y, hok⟩ q
          · omega
        · exact i6 j (by omega) hok
theorem fcS_2 (c : Nat → Nat) (ok : Nat → Bool) (k : Nat) : (fcS c ok k).2 ≤ 1000000000 ∧ (fcS c ok k).1 ≤ k := by
  rcases fcS_P c ok k with ⟨h1, h2, -⟩ | ⟨i, h1, h2, h3, h4, -⟩
  · omega
  · omega
section EV
variable {F : Nat} {D : Nat → Nat → Nat} {M : gM} {A : Nat → Nat → Bool} {f : Nat → Nat} {n l h cnt : Nat} {st : Nat → Nat}
theorem cst_le (hf : ∀ p, p < n → f p ≤ 99) (hn : n ≤ 10) (h a : Nat) : cstN A f n l h a ≤ 1000000000 := by
  unfold cstN
  have e := sS_le (a := a) hf
  split
  · omega
  · rcases lcm_fin (A := A) (l := l) (w := a) (m := 11 - h) hf hn (by omega) with q | q <;> omega
theorem e1_first (hF : 4000 ≤ F) (hf : ∀ p, p < n → f p ≤ 99) (hn : n ≤ 10) (hl : l ≤ 1) (hh : h < 12) (hH : hT A n M h cnt st) (hc : ∀ k, k < cnt → M (74 + h) k = nI (cstN A f n l h (st k))) {w : Nat} (hw : w < 1024) :
    ∃ r, f_X1_firstCheapest F (nI h) (nI w) (nI l) M = some r ∧ (lcm A f n l (12 - h) w = 1000000 ∧ r = m1 ∨ lcm A f n l (12 - h) w < 1000000 ∧ ∃ k, k < cnt ∧ r = nI k ∧ st k = fsN A f n l h w ∧ cstN A f n l h (st k) = lcm A f n l (12 - h) w) := by
  obtain ⟨a1, a2, a3, a4, a5, a6⟩ := hH
  have r4 := rf45 h (by omega)
  have r7 := rf73 h hh
  have hcl : ∀ k, cstN A f n l h (st k) ≤ 1000000000 := fun k => cst_le hf hn h (st k)
  obtain ⟨⟨b, L⟩, ⟨q1, q2⟩, q3⟩ := up_inv (fun q k (s : Int32 × Int32) => f_X1_firstCheapest_h10 F (nI h) (nI w) (nI l) M q s.1 s.2 (nI k)) cnt (fun k s => s.1 = dn (fcS (fun k => cstN A f n l h (st k)) (fun k => okB l (st k) w) k).1 ∧ s.2 = nI (fcS (fun k => cstN A f n l h (st k)) (fun k => okB l (st k) w) k).2) (by
    rintro q k ⟨b, L⟩ hk ⟨u1, u2⟩
    dsimp only at u1 u2
    subst u1; subst u2
    obtain ⟨v1, v0, v2⟩ := a3 k hk
    have v3 := hc k hk
    have v4 := hcl k
    obtain ⟨v5, v6⟩ := fcS_2 (fun k => cstN A f n l h (st k)) (fun k => okB l (st k) w) k
    have v7 : st k &&& w < 1024 := Nat.lt_of_le_of_lt Nat.and_le_left v2
    refine ⟨(dn (fcS (fun k => cstN A f n l h (st k)) (fun k => okB l (st k) w) (k + 1)).1, nI (fcS (fun k => cstN A f n l h (st k)) (fun k => okB l (st k) w) (k + 1)).2), ⟨rfl, rfl⟩, ?_⟩
    have e : fcS (fun k => cstN A f n l h (st k)) (fun k => okB l (st k) w) (k + 1) = if cstN A f n l h (st k) < (fcS (fun k => cstN A f n l h (st k)) (fun k => okB l (st k) w) k).2 ∧ okB l (st k) w = true then (k + 1, cstN A f n l h (st k)) else fcS (fun k => cstN A f n l h (st k)) (fun k => okB l (st k) w) k := rfl
    show f_X1_firstCheapest_h10 F (nI h) (nI w) (nI l) M (q + 1) (dn (fcS (fun k => cstN A f n l h (st k)) (fun k => okB l (st k) w) k).1) (nI (fcS (fun k => cstN A f n l h (st k)) (fun k => okB l (st k) w) k).2) (nI k) = f_X1_firstCheapest_h10 F (nI h) (nI w) (nI l) M q (dn (fcS (fun k => cstN A f n l h (st k)) (fun k => okB l (st k) w) (k + 1)).1) (nI (fcS (fun k => cstN A f n l h (st k)) (fun k => okB l (st k) w) (k + 1)).2) (nI (k + 1))
    rw [e]
    generalize fcS (fun k => cstN A f n l h (st k)) (fun k => okB l (st k) w) k = S at *
    generalize cstN A f n l h (st k) = C at *
    show f_X1_firstCheapest_h10_b F _ _ _ M _ _ _ _ = _
    unfold f_X1_firstCheapest_h10_b f_X1_firstCheapest_b53
    by_cases z : C < S.2
    · by_cases z0 : l = 0
      · subst z0
        have z1 : okB 0 (st k) w = true := rfl
        simp (disch := omega) only [pn_lt, pn_ltM, pl_ofN, ↓pl_m1, pl_lit, fa_litL, pn_bs, ck_n, ckh_n, ck_t, ckh_t, nI_add, nI_clamp, nI_ltI, nI_leI, nI_eq, m1_eq, m1_eq2, m1_lt, m1_le, m1_lt2, m1_le2, m1_m1, nI_m1, nI_subn, gb_n, Nat.add_zero, Nat.zero_add, Nat.zero_or, Nat.or_zero, nle_f, nle_t, nlt_f, nlt_t, neq_f, neq_t, Bool.false_eq_true, eq_self, if_true, if_false, ite_true, ite_false, and_true, true_and, and_false, false_and, decide_true, decide_false, Bool.and_true, Bool.true_and, Bool.and_false, Bool.false_and, Bool.or_false, Bool.false_or, Bool.or_true, Bool.true_or, Bool.not_true, Bool.not_false, not_true_eq_false, not_false_eq_true, a2, r7, r4, v3, z, z1, dn_s]
      · by_cases z3 : st k &&& w = 0
        · have z1 : okB l (st k) w = true := by unfold okB; rw [decide_eq_true z3, Bool.or_true]
          simp (disch := omega) only [pn_lt, pn_ltM, pl_ofN, ↓pl_m1, pl_lit, fa_litL, pn_bs, ck_n, ckh_n, ck_t, ckh_t, nI_add, nI_clamp, nI_ltI, nI_leI, nI_eq, m1_eq, m1_eq2, m1_lt, m1_le, m1_lt2, m1_le2, m1_m1, nI_m1, nI_subn, gb_n, Nat.add_zero, Nat.zero_add, Nat.zero_or, Nat.or_zero, nle_f, nle_t, nlt_f, nlt_t, neq_f, neq_t, Bool.false_eq_true, eq_self, if_true, if_false, ite_true, ite_false, and_true, true_and, and_false, false_and, decide_true, decide_false, Bool.and_true, Bool.true_and, Bool.and_false, Bool.false_and, Bool.or_false, Bool.false_or, Bool.or_true, Bool.true_or, Bool.not_true, Bool.not_false, not_true_eq_false, not_false_eq_true, a2, r7, r4, v1, v3, z, z1, dn_s, pl_and, z3]
        · have z1 : okB l (st k) w = false := by unfold okB; rw [decide_eq_false z3, decide_eq_false z0]; rfl
          simp (disch := omega) only [pn_lt, pn_ltM, pl_ofN, ↓pl_m1, pl_lit, fa_litL, pn_bs, ck_n, ckh_n, ck_t, ckh_t, nI_add, nI_clamp, nI_ltI, nI_leI, nI_eq, m1_eq, m1_eq2, m1_lt, m1_le, m1_lt2, m1_le2, m1_m1, nI_m1, nI_subn, gb_n, Nat.add_zero, Nat.zero_add, Nat.zero_or, Nat.or_zero, nle_f, nle_t, nlt_f, nlt_t, neq_f, neq_t, Bool.false_eq_true, eq_self, if_true, if_false, ite_true, ite_false, and_true, true_and, and_false, false_and, decide_true, decide_false, Bool.and_true, Bool.true_and, Bool.and_false, Bool.false_and, Bool.or_false, Bool.false_or, Bool.or_true, Bool.true_or, Bool.not_true, Bool.not_false, not_true_eq_false, not_false_eq_true, a2, r7, r4, v1, v3, z, z1, dn_s, pl_and, z3]
    · simp (disch := omega) only [pn_lt, pn_ltM, pl_ofN, ↓pl_m1, pl_lit, fa_litL, pn_bs, ck_n, ckh_n, ck_t, ckh_t, nI_add, nI_clamp, nI_ltI, nI_leI, nI_eq, m1_eq, m1_eq2, m1_lt, m1_le, m1_lt2, m1_le2, m1_m1, nI_m1, nI_subn, gb_n, Nat.add_zero, Nat.zero_add, Nat.zero_or, Nat.or_zero, nle_f, nle_t, nlt_f, nlt_t, neq_f, neq_t, Bool.false_eq_true, eq_self, if_true, if_false, ite_true, ite_false, and_true, true_and, and_false, false_and, decide_true, decide_false, Bool.and_true, Bool.true_and, Bool.and_false, Bool.false_and, Bool.or_false, Bool.false_or, Bool.or_true, Bool.true_or, Bool.not_true, Bool.not_false, not_true_eq_false, not_false_eq_true, a2, r7, r4, v1, v3, z]) cnt 0 (m1, nI 1000000000) F (by omega) (by omega) ⟨dn_0.symm, rfl⟩
  dsimp only at q1 q2 q3
  have hrun : f_X1_firstCheapest F (nI h) (nI w) (nI l) M = some (dn (fcS (fun k => cstN A f n l h (st k)) (fun k => okB l (st k) w) cnt).1) := by
    unfold f_X1_firstCheapest
    refine q3.trans ?_
    obtain ⟨n', en⟩ : ∃ n', F - cnt = n' + 1 := ⟨F - cnt - 1, by omega⟩
    rw [en, q1]
    show f_X1_firstCheapest_h10_b F _ _ _ M _ _ _ _ = _
    unfold f_X1_firstCheapest_h10_b
    simp (disch := omega) only [pn_lt, pn_ltM, pl_ofN, ↓pl_m1, pl_lit, fa_litL, pn_bs, ck_n, ckh_n, ck_t, ckh_t, nI_add, nI_clamp, nI_ltI, nI_leI, nI_eq, m1_eq, m1_eq2, m1_lt, m1_le, m1_lt2, m1_le2, m1_m1, nI_m1, nI_subn, gb_n, Nat.add_zero, Nat.zero_add, Nat.zero_or, Nat.or_zero, nle_f, nle_t, nlt_f, nlt_t, neq_f, neq_t, Bool.false_eq_true, eq_self, if_true, if_false, ite_true, ite_false, and_true, true_and, and_false, false_and, decide_true, decide_false, Bool.and_true, Bool.true_and, Bool.and_false, Bool.false_and, Bool.or_false, Bool.false_or, Bool.or_true, Bool.true_or, Bool.not_true, Bool.not_false, not_true_eq_false, not_false_eq_true, a2]
  refine ⟨_, hrun, ?_⟩
  -- what it means
  have e1 : 12 - h = 11 - h + 1 := by omega
  have e2 : 11 - (11 - h) = h := by omega
  have e3 := lcm_s (A := A) (f := f) (n := n) (l := l) (11 - h) w
  rw [← e1, e2] at e3
  have hV : ∀ a, lcm A f n l (11 - h) a < 1000000 → sS f a n + lcm A f n l (11 - h) a < 1000000 ∧ cstN A f n l h a = sS f a n + lcm A f n l (11 - h) a := fun a ha => by
    have b3 := sS_le (a := a) hf
    unfold cstN
    rw [if_neg (by omega)]
    rcases lcm_fin (A := A) (l := l) (w := a) (m := 11 - h) hf hn (by omega) with q | q <;> omega
  have hV2 : ∀ a, cstN A f n l h a < 1000000000 → lcm A f n l (11 - h) a < 1000000 := fun a ha => by
    unfold cstN at ha
    have := lcm_le (A := A) (f := f) (n := n) (l := l) (11 - h) a
    by_cases q : lcm A f n l (11 - h) a = 1000000
    · rw [if_pos q] at ha
      omega
    · omega
  have hat := bst_at (A := A h) (V := fun a => sS f a n + lcm A f n l (11 - h) a) (l := l) (w := w) 1024
  rw [← e3] at hat
  rcases fcS_P (fun k => cstN A f n l h (st k)) (fun k => okB l (st k) w) cnt with ⟨i1, i2, i3⟩ | ⟨i, i1, i2, i3, i4, i5, i6, i7⟩
  · left
    refine ⟨?_, by rw [i1, dn_0]⟩
    rcases hat with q | ⟨a, h1, h2, h3, h4, h5⟩
    · exact q
    · exfalso
      obtain ⟨k, k1, k2⟩ := a6 a h2
      have := i3 k k1 (by rw [k2]; exact h3)
      rw [k2] at this
      have := (hV a (by omega)).2
      omega
  · right
    have j1 := hV2 _ i4
    obtain ⟨j2, j3⟩ := hV _ j1
    have low : lcm A f n l (12 - h) w ≤ sS f (st i) n + lcm A f n l (11 - h) (st i) := by
      rw [e3]
      exact bst_low (V := fun a => sS f a n + lcm A f n l (11 - h) a) (a5 i i1) i5 1024 (a3 i i1).2.2
    have heq : lcm A f n l (12 - h) w = sS f (st i) n + lcm A f n l (11 - h) (st i) := by
      rcases hat with q | ⟨a, h1, h2, h3, h4, h5⟩
      · omega
      · obtain ⟨k, k1, k2⟩ := a6 a h2
        have g1 := i6 k k1 (by rw [k2]; exact h3)
        rw [k2] at g1
        have g2 := (hV a (by omega)).2
        omega
    refine ⟨by omega, i, i1, by rw [i2, dn_s], ?_, by omega⟩
    refine (fa_is (a3 i i1).2.2 (fsP_iff.mpr ⟨a5 i i1, i5, heq.symm⟩) (fun y hy => ?_)).symm
    cases hp : fsP A f n l h w y with
    | false => rfl
    | true =>
      exfalso
      obtain ⟨g1, g2, g3⟩ := fsP_iff.mp hp
      obtain ⟨k, k1, k2⟩ := a6 y g1
      have hki : k < i := by
        rcases Nat.lt_trichotomy k i with z | z | z
        · exact z
        · rw [z] at k2; omega
        · have := a4 i k z k1; omega
      have g4 := i7 k hki (by rw [k2]; exact g2)
      rw [k2] at g4
      have g5 := (hV y (by omega)).2
      omega
theorem e1_after (hF : 4000 ≤ F) (hf : ∀ p, p < n → f p ≤ 99) (hn : n ≤ 10) (hl : l ≤ 1) {g : Int32} {h' : Nat} (hg : g + 1 = nI h') (hh : h' ≤ 12) (hH : h' < 12 → hT A n M h' cnt st ∧ ∀ k, k < cnt → M (74 + h') k = nI (cstN A f n l h' (st k))) {w : Nat} (hw : w < 1024) :
    f_X1_cheapestAfter F g (nI w) (nI l) M = some (nI (if lcm A f n l (12 - h') w = 1000000 then 1000000000 else lcm A f n l (12 - h') w)) := by
  unfold f_X1_cheapestAfter
  rw [hg]
  by_cases z : h' < 12
  · obtain ⟨hH1, hc⟩ := hH z
    obtain ⟨r, r1, r2⟩ := e1_first hF hf hn hl z hH1 hc hw
    have r7 := rf73 h' z
    have hcnt := hH1.1
    rcases r2 with ⟨r2, r3⟩ | ⟨r2, k, k1, k2, k3, k4⟩
    · subst r3
      simp (disch := omega) only [pn_lt, pn_ltM, pl_ofN, ↓pl_m1, pl_lit, fa_litL, pn_bs, ck_n, ckh_n, ck_t, ckh_t, nI_add, nI_clamp, nI_ltI, nI_leI, nI_eq, m1_eq, m1_eq2, m1_lt, m1_le, m1_lt2, m1_le2, m1_m1, nI_m1, nI_subn, gb_n, Nat.add_zero, Nat.zero_add, Nat.zero_or, Nat.or_zero, nle_f, nle_t, nlt_f, nlt_t, neq_f, neq_t, Bool.false_eq_true, eq_self, if_true, if_false, ite_true, ite_false, and_true, true_and, and_false, false_and, decide_true, decide_false, Bool.and_true, Bool.true_and, Bool.and_false, Bool.false_and, Bool.or_false, Bool.false_or, Bool.or_true, Bool.true_or, Bool.not_true, Bool.not_false, not_true_eq_false, not_false_eq_true, r1, r2]
    · subst k2
      have v := hc k k1
      rw [k4] at v
      generalize lcm A f n l (12 - h') w = C at *
      have z2 : ¬ C = 1000000 := by omega
      simp (disch := omega) only [pn_lt, pn_ltM, pl_ofN, ↓pl_m1, pl_lit, fa_litL, pn_bs, ck_n, ckh_n, ck_t, ckh_t, nI_add, nI_clamp, nI_ltI, nI_leI, nI_eq, m1_eq, m1_eq2, m1_lt, m1_le, m1_lt2, m1_le2, m1_m1, nI_m1, nI_subn, gb_n, Nat.add_zero, Nat.zero_add, Nat.zero_or, Nat.or_zero, nle_f, nle_t, nlt_f, nlt_t, neq_f, neq_t, Bool.false_eq_true, eq_self, if_true, if_false, ite_true, ite_false, and_true, true_and, and_false, false_and, decide_true, decide_false, Bool.and_true, Bool.true_and, Bool.and_false, Bool.false_and, Bool.or_false, Bool.false_or, Bool.or_true, Bool.true_or, Bool.not_true, Bool.not_false, not_true_eq_false, not_false_eq_true, r1, r7, v, z2]
  · have e : h' = 12 := by omega
    subst e
    have e0 : lcm A f n l (12 - 12) w = 0 := rfl
    rw [e0]
    simp (disch := omega) only [pn_lt, pn_ltM, pl_ofN, ↓pl_m1, pl_lit, fa_litL, pn_bs, ck_n, ckh_n, ck_t, ckh_t, nI_add, nI_clamp, nI_ltI, nI_leI, nI_eq, m1_eq, m1_eq2, m1_lt, m1_le, m1_lt2, m1_le2, m1_m1, nI_m1, nI_subn, gb_n, Nat.add_zero, Nat.zero_add, Nat.zero_or, Nat.or_zero, nle_f, nle_t, nlt_f, nlt_t, neq_f, neq_t, Bool.false_eq_true, eq_self, if_true, if_false, ite_true, ite_false, and_true, true_and, and_false, false_and, decide_true, decide_false, Bool.and_true, Bool.true_and, Bool.and_false, Bool.false_and, Bool.or_false, Bool.false_or, Bool.or_true, Bool.true_or, Bool.not_true, Bool.not_false, not_true_eq_false, not_false_eq_true]
/-- sums over rows of ten of which the first n are known -/
theorem e8_sumN (hF : 4000 ≤ F) (hn : n ≤ 10) {a o : Nat} (ha : a < 2 ^ n) (hr : ∀ p, p < n → M o p = nI (f p)) : f_X8_sumOver F (nI a) o 10 M = some (nI (sS f a n)) := by
  have ha2 := Nat.lt_of_lt_of_le ha (p2_31 hn)
  have e := e8_sumOver (F := F) (a := a) (o := o) (M := M) (f := fun p => if p < n then f p else (M o p).toBitVec.toNat) hF (by omega) (fun p hp => by
    by_cases q : p < n
    · rw [if_pos q]; exact hr p q
    · rw [if_neg q]
      exact Int32.toBitVec_inj.mp (by show _ = BitVec.ofNat 32 _; simp))
  rw [e]
  congr 2
  unfold sS
  have e10 : 10 = n + (10 - n) := by omega
  rw [e10, fb_sm_split]
  have e1 : fb_sm (fun k => (fun p => if a.testBit p then (if p < n then f p else (M o p).toBitVec.toNat) else 0) (n + k)) (10 - n) = 0 := by
    rw [fb_sm_cong (g := fun _ => 0) (fun k _ => by
      dsimp only
      rw [bits_of_lt ha (by omega)]
      rfl), fb_sm_const]
    omega
  rw [e1, Nat.add_zero]
  refine fb_sm_cong (fun k hk => ?_)
  dsimp only
  rw [if_pos hk]
/-- all costs -/
theorem e1_costs (hF : 4000 ≤ F) (hf : ∀ p, p < n → f p ≤ 99) (hn : n ≤ 10) (hl : l ≤ 1) {o : Nat} (ho : o < 43 ∨ 87 < o) {CN : Nat → Nat} {ST : Nat → Nat → Nat} (hH : ∀ h, h < 12 → hT A n M h (CN h) (ST h)) (hr : ∀ p, p < n → M o p = nI (f p)) :
    ∃ N, f_X1_choose F o 10 (nI l) M = ((f_X1_cheapestAfter F m1 (nI 0) (nI l) N).bind fun r1 => f_X1_choose_h103 F o 10 (nI l) F (nI 0) (nI 0) (gst N 43 8 r1)) ∧
      (∀ h, h < 12 → ∀ k, k < CN h → N (74 + h) k = nI (cstN A f n l h (ST h k))) ∧ (∀ k j, (k < 74 ∨ 85 < k) → N k j = M k j) := by
  obtain ⟨N1, ⟨a1, a2, -⟩, a3⟩ := dn_inv (fun q c (N : gM) => f_X1_choose_h3 F o 10 (nI l) q (dn c) N) (fun c N => (∀ h, c ≤ h → h < 12 → ∀ k, k < CN h → N (74 + h) k = nI (cstN A f n l h (ST h k))) ∧ (∀ k j, (k < 74 ∨ 85 < k) → N k j = M k j) ∧ c ≤ 12) (by
    rintro q c N ⟨u1, u2, u3⟩
    have hh : c < 12 := by omega
    have hHN : ∀ (N : gM), (∀ k j, (k < 74 ∨ 85 < k) → N k j = M k j) → ∀ h, h < 12 → hT A n N h (CN h) (ST h) := fun N hN h hh => hT_fr (hH h hh) (fun k j h1 h2 => hN k j (by omega)) (by omega)
    obtain ⟨N', ⟨b1, b2, b3⟩, b4⟩ := up_inv (fun q' k (N : gM) => f_X1_choose_h10 F o 10 (nI l) (f_X1_choose_h3 F o 10 (nI l) q) q' (nI c) (nI k) N) (CN c) (fun i N' => (∀ k, k < i → N' (74 + c) k = nI (cstN A f n l c (ST c k))) ∧ (∀ k j, k ≠ 74 + c → N' k j = N k j) ∧ (∀ k j, (k < 74 ∨ 85 < k) → N' k j = M k j)) (by
      rintro q' k N' hk ⟨w1, w2, w3⟩
      have hT1 := hHN N' w3 c hh
      obtain ⟨t1, t2, t3, t4, t5, t6⟩ := hT1
      obtain ⟨v1, v2, v3⟩ := t3 k hk
      have r4 := rf45 c (by omega)
      have r7 := rf73 c hh
      have hcc : (nI c) + 1 = nI (c + 1) := nI_add c 1
      have haf := e1_after (M := N') (A := A) (cnt := CN (c + 1)) (st := ST (c + 1)) (w := ST c k) hF hf hn hl hcc (by omega) (fun hlt => ⟨hHN N' w3 (c + 1) hlt, fun k2 hk2 => by
        rw [w2 _ _ (by omega)]
        exact u1 (c + 1) (by omega) hlt k2 hk2⟩) v3
      have hsum := e8_sumN (M := N') (o := o) hF hn v2 (fun p hp => by rw [w3 _ _ (by omega)]; exact hr p hp)
      have e12 : 12 - (c + 1) = 11 - c := by omega
      rw [e12] at haf
      have b2' := lcm_le (A := A) (f := f) (n := n) (l := l) (11 - c) (ST c k)
      have b3' := sS_le (a := ST c k) hf
      refine ⟨gst N' (74 + c) k (nI (cstN A f n l c (ST c k))), ⟨fun k2 hk2 => ?_, fun k2 j hk2 => by rw [gst_v, if_neg (by omega)]; exact w2 k2 j hk2, fun k2 j hk2 => by rw [gst_v, if_neg (by omega)]; exact w3 k2 j hk2⟩, ?_⟩
      · rw [gst_v]
        by_cases e : k2 = k
        · rw [if_pos ⟨rfl, e⟩, e]
        · rw [if_neg (fun z => e z.2)]
          exact w1 k2 (by omega)
      · show f_X1_choose_h10_b F o 10 _ _ _ _ _ _ = _
        unfold f_X1_choose_h10_b cstN
        generalize lcm A f n l (11 - c) (ST c k) = C at *
        generalize sS f (ST c k) n = G at *
        by_cases z : C = 1000000
        · subst z
          rw [if_pos rfl] at haf
          simp (disch := omega) only [pn_lt, pn_ltM, pl_ofN, ↓pl_m1, pl_lit, fa_litL, pn_bs, ck_n, ckh_n, ck_t, ckh_t, nI_add, nI_clamp, nI_ltI, nI_leI, nI_eq, m1_eq, m1_eq2, m1_lt, m1_le, m1_lt2, m1_le2, m1_m1, nI_m1, nI_subn, gb_n, Nat.add_zero, Nat.zero_add, Nat.zero_or, Nat.or_zero, nle_f, nle_t, nlt_f, nlt_t, neq_f, neq_t, Bool.false_eq_true, eq_self, if_true, if_false, ite_true, ite_false, and_true, true_and, and_false, false_and, decide_true, decide_false, Bool.and_true, Bool.true_and, Bool.and_false, Bool.false_and, Bool.or_false, Bool.false_or, Bool.or_true, Bool.true_or, Bool.not_true, Bool.not_false, not_true_eq_false, not_false_eq_true, t2, r4, r7, v1, haf]
        · rw [if_neg z] at haf
          simp (disch := omega) only [pn_lt, pn_ltM, pl_ofN, ↓pl_m1, pl_lit, fa_litL, pn_bs, ck_n, ckh_n, ck_t, ckh_t, nI_add, nI_clamp, nI_ltI, nI_leI, nI_eq, m1_eq, m1_eq2, m1_lt, m1_le, m1_lt2, m1_le2, m1_m1, nI_m1, nI_subn, gb_n, Nat.add_zero, Nat.zero_add, Nat.zero_or, Nat.or_zero, nle_f, nle_t, nlt_f, nlt_t, neq_f, neq_t, Bool.false_eq_true, eq_self, if_true, if_false, ite_true, ite_false, and_true, true_and, and_false, false_and, decide_true, decide_false, Bool.and_true, Bool.true_and, Bool.and_false, Bool.false_and, Bool.or_false, Bool.false_or, Bool.or_true, Bool.true_or, Bool.not_true, Bool.not_false, not_true_eq_false, not_false_eq_true, t2, r4, r7, v1, haf, hsum, z]) (CN c) 0 N F (by omega) (by have := (hH c hh).1; omega) ⟨fun k hk => absurd hk (Nat.not_lt_zero _), fun _ _ _ => rfl, u2⟩
    refine ⟨N', ⟨fun h h1 h2 k hk => ?_, b3, by omega⟩, ?_⟩
    · by_cases e : h = c
      · subst e
        exact b1 k hk
      · rw [b2 _ _ (by omega)]
        exact u1 h (by omega) h2 k hk
    · show f_X1_choose_h3_b F o 10 _ _ _ _ = _
      unfold f_X1_choose_h3_b
      rw [dn_s, if_neg (nI_pos (by omega))]
      refine b4.trans ?_
      have hcn := (hH c hh).1
      obtain ⟨n', en⟩ : ∃ n', F - CN c = n' + 1 := ⟨F - CN c - 1, by omega⟩
      rw [en]
      show f_X1_choose_h10_b F o 10 _ _ _ _ _ _ = _
      unfold f_X1_choose_h10_b
      have t2 := (hHN N' b3 c hh).2.1
      simp (disch := omega) only [pn_lt, pn_ltM, pl_ofN, ↓pl_m1, pl_lit, fa_litL, pn_bs, ck_n, ckh_n, ck_t, ckh_t, nI_add, nI_clamp, nI_ltI, nI_leI, nI_eq, m1_eq, m1_eq2, m1_lt, m1_le, m1_lt2, m1_le2, m1_m1, nI_m1, nI_subn, gb_n, Nat.add_zero, Nat.zero_add, Nat.zero_or, Nat.or_zero, nle_f, nle_t, nlt_f, nlt_t, neq_f, neq_t, Bool.false_eq_true, eq_self, if_true, if_false, ite_true, ite_false, and_true, true_and, and_false, false_and, decide_true, decide_false, Bool.and_true, Bool.true_and, Bool.and_false, Bool.false_and, Bool.or_false, Bool.false_or, Bool.or_true, Bool.true_or, Bool.not_true, Bool.not_false, not_true_eq_false, not_false_eq_true, t2, dn_m]) 12 M F (by omega) ⟨fun h h1 h2 => by omega, fun _ _ _ => rfl, by omega⟩
  refine ⟨N1, ?_, fun h hh k hk => a1 h (Nat.zero_le _) hh k hk, a2⟩
  unfold f_X1_choose
  have e11 : (11 : Int32) = dn 12 := (dn_s 11).symm
  rw [e11]
  refine a3.trans ?_
  obtain ⟨n2, en2⟩ : ∃ n2, F - 12 = n2 + 1 := ⟨F - 13, by omega⟩
  rw [en2]
  show f_X1_choose_h3_b F o 10 _ _ _ _ = _
  unfold f_X1_choose_h3_b
  rw [dn_0, if_pos (show m1 < (0 : Int32) by decide +kernel)]
  rfl
end EV
