/-! the class's rows of sets: one more put in -/
theorem rf45 : ∀ h, h < 13 → rf 45 h = 46 + h := by decide +kernel
theorem rf59 : ∀ h, h < 13 → rf 59 h = 60 + h := by decide +kernel
theorem rf73 : ∀ h, h < 12 → rf 73 h = 74 + h := by decide +kernel
/-- the rows of the hour h hold just what Q tells, each set once, with its least code -/
def hI (Q : Nat → Nat → Prop) (M : gM) (h : Nat) : Prop :=
  ∃ (cnt : Nat) (st cd : Nat → Nat), cnt ≤ 64 ∧ M 44 h = nI cnt ∧ (∀ k, k < cnt → M (46 + h) k = nI (st k) ∧ M (60 + h) k = nI (cd k)) ∧ (∀ i j, i < j → j < cnt → st i < st j) ∧ (∀ k, k < cnt → Q (st k) (cd k)) ∧ (∀ a c, Q a c → ∃ k, k < cnt ∧ st k = a ∧ cd k ≤ c)
/-- the numbers are small, and there are few sets -/
def qB (Q : Nat → Nat → Prop) : Prop := (∀ a c, Q a c → a < 1024 ∧ c < 262144) ∧ ∀ (L : Nat) (f : Nat → Nat), (∀ i, i < L → ∃ c, Q (f i) c) → (∀ i j, i < j → j < L → f i < f j) → L ≤ 64
theorem hI_of {Q Q' : Nat → Nat → Prop} {M : gM} {h : Nat} (q : hI Q M h) (h1 : ∀ a c, Q a c → Q' a c) (h2 : ∀ a c, Q' a c → ∃ c', c' ≤ c ∧ Q a c') : hI Q' M h := by
  obtain ⟨cnt, st, cd, a1, a2, a3, a4, a5, a6⟩ := q
  refine ⟨cnt, st, cd, a1, a2, a3, a4, fun k hk => h1 _ _ (a5 k hk), fun a c hc => ?_⟩
  obtain ⟨c', b1, b2⟩ := h2 a c hc
  obtain ⟨k, b3, b4, b5⟩ := a6 a c' b2
  exact ⟨k, b3, b4, by omega⟩
theorem hI_fr {Q : Nat → Nat → Prop} {M M' : gM} {h : Nat} (q : hI Q M h) (e1 : M' 44 h = M 44 h) (e2 : M' (46 + h) = M (46 + h)) (e3 : M' (60 + h) = M (60 + h)) : hI Q M' h := by
  obtain ⟨cnt, st, cd, a1, a2, a3, a4, a5, a6⟩ := q
  exact ⟨cnt, st, cd, a1, by rw [e1]; exact a2, fun k hk => by rw [e2, e3]; exact a3 k hk, a4, a5, a6⟩
theorem hI_0 {M : gM} {h : Nat} (q : M 44 h = nI 0) : hI (fun _ _ => False) M h :=
  ⟨0, fun _ => 0, fun _ => 0, by omega, q, fun k hk => absurd hk (Nat.not_lt_zero _), fun i j _ hj => absurd hj (Nat.not_lt_zero _), fun k hk => absurd hk (Nat.not_lt_zero _), fun _ _ q => q.elim⟩
section EV
variable {F h cnt a c : Nat} {st cd : Nat → Nat} {M : gM}
/-- the place of the set: ahead of it the lesser ones -/
theorem e1_place (hc : cnt ≤ 64) (ha : a < 1024) (hr : ∀ k, k < cnt → M (46 + h) k = nI (st k)) (hs : ∀ i j, i < j → j < cnt → st i < st j) (hb : ∀ k, k < cnt → st k < 1024) (a0 a2 : Int32) :
    ∀ q n, q ≤ cnt → q < n → (∀ k, q ≤ k → k < cnt → a ≤ st k) → ∃ p, p ≤ q ∧ (∀ k, k < p → st k < a) ∧ (∀ k, p ≤ k → k < cnt → a ≤ st k) ∧ f_X1_addSet_h20 F a0 (nI a) a2 n (46 + h) (nI cnt) (nI q) M = f_X1_addSet_b42 F a0 (nI a) a2 (46 + h) (nI cnt) (nI p) M := by
  intro q
  induction q with
  | zero =>
    intro n _ hn hk
    obtain ⟨n', rfl⟩ : ∃ n', n = n' + 1 := ⟨n - 1, by omega⟩
    refine ⟨0, by omega, fun k hk => absurd hk (Nat.not_lt_zero _), hk, ?_⟩
    show f_X1_addSet_h20_b F _ _ _ _ _ _ _ _ = _
    unfold f_X1_addSet_h20_b
    simp (disch := omega) only [pn_lt, pn_ltM, pl_ofN, ↓pl_m1, pl_lit, fa_litL, pn_bs, ck_n, ckh_n, ck_t, ckh_t, nI_add, nI_clamp, nI_ltI, nI_leI, nI_eq, m1_eq, m1_eq2, m1_lt, m1_le, m1_lt2, m1_le2, m1_m1, nI_m1, nI_subn, gb_n, Nat.add_zero, Nat.zero_add, Nat.zero_or, Nat.or_zero, nle_f, nle_t, nlt_f, nlt_t, neq_f, neq_t, Bool.false_eq_true, eq_self, if_true, if_false, ite_true, ite_false, and_true, true_and, and_false, false_and, decide_true, decide_false, Bool.and_true, Bool.true_and, Bool.and_false, Bool.false_and, Bool.or_false, Bool.false_or, Bool.or_true, Bool.true_or, Bool.not_true, Bool.not_false, not_true_eq_false, not_false_eq_true]
  | succ q ih =>
    intro n hq hn hk
    obtain ⟨n', rfl⟩ : ∃ n', n = n' + 1 := ⟨n - 1, by omega⟩
    have e1 := hr q (by omega)
    have e2 := hb q (by omega)
    have e3 : nI (q + 1) - nI 1 = nI q := nI_pred q
    by_cases z : st q < a
    · refine ⟨q + 1, by omega, fun k hk2 => ?_, hk, ?_⟩
      · rcases Nat.lt_or_ge k q with y | y
        · have := hs k q y (by omega)
          omega
        · have : k = q := by omega
          rw [this]; exact z
      · show f_X1_addSet_h20_b F _ _ _ _ _ _ _ _ = _
        unfold f_X1_addSet_h20_b
        simp (disch := omega) only [pn_lt, pn_ltM, pl_ofN, ↓pl_m1, pl_lit, fa_litL, pn_bs, ck_n, ckh_n, ck_t, ckh_t, nI_add, nI_clamp, nI_ltI, nI_leI, nI_eq, m1_eq, m1_eq2, m1_lt, m1_le, m1_lt2, m1_le2, m1_m1, nI_m1, nI_subn, gb_n, Nat.add_zero, Nat.zero_add, Nat.zero_or, Nat.or_zero, nle_f, nle_t, nlt_f, nlt_t, neq_f, neq_t, Bool.false_eq_true, eq_self, if_true, if_false, ite_true, ite_false, and_true, true_and, and_false, false_and, decide_true, decide_false, Bool.and_true, Bool.true_and, Bool.and_false, Bool.false_and, Bool.or_false, Bool.false_or, Bool.or_true, Bool.true_or, Bool.not_true, Bool.not_false, not_true_eq_false, not_false_eq_true, e3, e1]
    · obtain ⟨p, p1, p2, p3, p4⟩ := ih n' (by omega) (by omega) (fun k h1 h2 => by
        rcases Nat.lt_or_ge q k with y | y
        · exact hk k (by omega) h2
        · have : k = q := by omega
          rw [this]; omega)
      refine ⟨p, by omega, p2, p3, Eq.trans ?_ p4⟩
      show f_X1_addSet_h20_b F _ _ _ _ _ _ _ _ = _
      unfold f_X1_addSet_h20_b
      simp (disch := omega) only [pn_lt, pn_ltM, pl_ofN, ↓pl_m1, pl_lit, fa_litL, pn_bs, ck_n, ckh_n, ck_t, ckh_t, nI_add, nI_clamp, nI_ltI, nI_leI, nI_eq, m1_eq, m1_eq2, m1_lt, m1_le, m1_lt2, m1_le2, m1_m1, nI_m1, nI_subn, gb_n, Nat.add_zero, Nat.zero_add, Nat.zero_or, Nat.or_zero, nle_f, nle_t, nlt_f, nlt_t, neq_f, neq_t, Bool.false_eq_true, eq_self, if_true, if_false, ite_true, ite_false, and_true, true_and, and_false, false_and, decide_true, decide_false, Bool.and_true, Bool.true_and, Bool.and_false, Bool.false_and, Bool.or_false, Bool.false_or, Bool.or_true, Bool.true_or, Bool.not_true, Bool.not_false, not_true_eq_false, not_false_eq_true, e3, e1]
/-- the rows moved up, and the new one put in -/
theorem e1_shift (hF : 4000 ≤ F) (hh : h < 13) (hc : cnt < 64) {p : Nat} (hp : p ≤ cnt) (M : gM) :
    ∃ M', f_X1_addSet_h93 F (nI h) (nI a) (nI c) F (46 + h) (nI cnt) (nI p) (nI cnt) M = some M' ∧ (∀ k j, k ≠ 46 + h → k ≠ 60 + h → ¬ (k = 44 ∧ j = h) → M' k j = M k j) ∧ M' 44 h = nI (cnt + 1) ∧
      (∀ j, j < p → M' (46 + h) j = M (46 + h) j ∧ M' (60 + h) j = M (60 + h) j) ∧ M' (46 + h) p = nI a ∧ M' (60 + h) p = nI c ∧ (∀ j, p < j → j ≤ cnt → M' (46 + h) j = M (46 + h) (j - 1) ∧ M' (60 + h) j = M (60 + h) (j - 1)) := by
  have r9 := rf59 h hh
  have key : ∀ m n (N : gM), p + m ≤ cnt → m < n → (∀ k j, k ≠ 46 + h → k ≠ 60 + h → N k j = M k j) → (∀ j, j < p + m → N (46 + h) j = M (46 + h) j ∧ N (60 + h) j = M (60 + h) j) → (∀ j, p + m < j → j ≤ cnt → N (46 + h) j = M (46 + h) (j - 1) ∧ N (60 + h) j = M (60 + h) (j - 1)) →
      ∃ M', f_X1_addSet_h93 F (nI h) (nI a) (nI c) n (46 + h) (nI cnt) (nI p) (nI (p + m)) N = some M' ∧ (∀ k j, k ≠ 46 + h → k ≠ 60 + h → ¬ (k = 44 ∧ j = h) → M' k j = M k j) ∧ M' 44 h = nI (cnt + 1) ∧
      (∀ j, j < p → M' (46 + h) j = M (46 + h) j ∧ M' (60 + h) j = M (60 + h) j) ∧ M' (46 + h) p = nI a ∧ M' (60 + h) p = nI c ∧ (∀ j, p < j → j ≤ cnt → M' (46 + h) j = M (46 + h) (j - 1) ∧ M' (60 + h) j = M (60 + h) (j - 1)) := by
    intro m
    induction m with
    | zero =>
      intro n N _ hn q1 q2 q3
      obtain ⟨n', rfl⟩ : ∃ n', n = n' + 1 := ⟨n - 1, by omega⟩
      refine ⟨gst (gst (gst N (46 + h) p (nI a)) (60 + h) p (nI c)) 44 h (nI (cnt + 1)), ?_, fun k j n1 n2 n3 => ?_, ?_, fun j hj => ?_, ?_, ?_, fun j h1 h2 => ?_⟩
      · show f_X1_addSet_h93_b F _ _ _ _ _ _ _ _ _ = _
        unfold f_X1_addSet_h93_b
        simp (disch := omega) only [pn_lt, pn_ltM, pl_ofN, ↓pl_m1, pl_lit, fa_litL, pn_bs, ck_n, ckh_n, ck_t, ckh_t, nI_add, nI_clamp, nI_ltI, nI_leI, nI_eq, m1_eq, m1_eq2, m1_lt, m1_le, m1_lt2, m1_le2, m1_m1, nI_m1, nI_subn, gb_n, Nat.add_zero, Nat.zero_add, Nat.zero_or, Nat.or_zero, nle_f, nle_t, nlt_f, nlt_t, neq_f, neq_t, Bool.false_eq_true, eq_self, if_true, if_false, ite_true, ite_false, and_true, true_and, and_false, false_and, decide_true, decide_false, Bool.and_true, Bool.true_and, Bool.and_false, Bool.false_and, Bool.or_false, Bool.false_or, Bool.or_true, Bool.true_or, Bool.not_true, Bool.not_false, not_true_eq_false, not_false_eq_true, r9]
      · rw [gst_v, if_neg (by omega), gst_v, if_neg (by omega), gst_v, if_neg (by omega)]
        exact q1 k j n1 n2
      · rw [gst_v, if_pos ⟨rfl, rfl⟩]
      · obtain ⟨u1, u2⟩ := q2 j (by omega)
        refine ⟨?_, ?_⟩
        · rw [gst_v, if_neg (by omega), gst_v, if_neg (by omega), gst_v, if_neg (by omega), u1]
        · rw [gst_v, if_neg (by omega), gst_v, if_neg (by omega), gst_v, if_neg (by omega), u2]
      · rw [gst_v, if_neg (by omega), gst_v, if_neg (by omega), gst_v, if_pos ⟨rfl, rfl⟩]
      · rw [gst_v, if_neg (by omega), gst_v, if_pos ⟨rfl, rfl⟩]
      · obtain ⟨u1, u2⟩ := q3 j (by omega) h2
        refine ⟨?_, ?_⟩
        · rw [gst_v, if_neg (by omega), gst_v, if_neg (by omega), gst_v, if_neg (by omega), u1]
        · rw [gst_v, if_neg (by omega), gst_v, if_neg (by omega), gst_v, if_neg (by omega), u2]
    | succ m ih =>
      intro n N hm hn q1 q2 q3
      obtain ⟨n', rfl⟩ : ∃ n', n = n' + 1 := ⟨n - 1, by omega⟩
      obtain ⟨v1, v2⟩ := q2 (p + m) (by omega)
      obtain ⟨M', r1, r2⟩ := ih n' (gst (gst N (46 + h) (p + m + 1) (M (46 + h) (p + m))) (60 + h) (p + m + 1) (M (60 + h) (p + m))) (by omega) (by omega) (fun k j n1 n2 => by
          rw [gst_v, if_neg (by omega), gst_v, if_neg (by omega)]
          exact q1 k j n1 n2) (fun j hj => by
          obtain ⟨u1, u2⟩ := q2 j (by omega)
          refine ⟨?_, ?_⟩
          · rw [gst_v, if_neg (by omega), gst_v, if_neg (by omega), u1]
          · rw [gst_v, if_neg (by omega), gst_v, if_neg (by omega), u2]) (fun j h1 h2 => by
          by_cases e : j = p + m + 1
          · subst e
            refine ⟨?_, ?_⟩
            · rw [gst_v, if_neg (by omega), gst_v, if_pos ⟨rfl, rfl⟩]
              rfl
            · rw [gst_v, if_pos ⟨rfl, rfl⟩]
              rfl
          · obtain ⟨u1, u2⟩ := q3 j (by omega) h2
            refine ⟨?_, ?_⟩
            · rw [gst_v, if_neg (by omega), gst_v, if_neg (by omega), u1]
            · rw [gst_v, if_neg (by omega), gst_v, if_neg (by omega), u2])
      refine ⟨M', Eq.trans ?_ r1, r2⟩
      have e3 : nI (p + (m + 1)) - nI 1 = nI (p + m) := nI_pred (p + m)
      have e4 : nI (p + (m + 1)) + m1 = nI (p + m) := m1_m1 (p + m)
      have e5 : p + (m + 1) = p + m + 1 := rfl
      show f_X1_addSet_h93_b F _ _ _ _ _ _ _ _ _ = _
      unfold f_X1_addSet_h93_b
      simp (disch := omega) only [pn_lt, pn_ltM, pl_ofN, ↓pl_m1, pl_lit, fa_litL, pn_bs, ck_n, ckh_n, ck_t, ckh_t, nI_add, nI_clamp, nI_ltI, nI_leI, nI_eq, m1_eq, m1_eq2, m1_lt, m1_le, m1_lt2, m1_le2, m1_m1, nI_m1, nI_subn, gb_n, Nat.add_zero, Nat.zero_add, Nat.zero_or, Nat.or_zero, nle_f, nle_t, nlt_f, nlt_t, neq_f, neq_t, Bool.false_eq_true, eq_self, if_true, if_false, ite_true, ite_false, and_true, true_and, and_false, false_and, decide_true, decide_false, Bool.and_true, Bool.true_and, Bool.and_false, Bool.false_and, Bool.or_false, Bool.false_or, Bool.or_true, Bool.true_or, Bool.not_true, Bool.not_false, not_true_eq_false, not_false_eq_true, r9, e3, e4, gst_v, e5, Nat.add_sub_cancel, v1, v2]
  have := key (cnt - p) F M (by omega) (by omega) (fun _ _ _ _ => rfl) (fun _ _ => ⟨rfl, rfl⟩) (fun j h1 h2 => by omega)
  rw [show p + (cnt - p) = cnt by omega] at this
  exact this
theorem e1_addSet (hF : 4000 ≤ F) (hh : h < 13) {Q : Nat → Nat → Prop} (hI0 : hI Q M h) (hB : qB (fun x y => Q x y ∨ x = a ∧ y = c)) :
    ∃ M', f_X1_addSet F (nI h) (nI a) (nI c) M = some M' ∧ hI (fun x y => Q x y ∨ x = a ∧ y = c) M' h ∧ (∀ k j, k ≠ 46 + h → k ≠ 60 + h → ¬ (k = 44 ∧ j = h) → M' k j = M k j) := by
  obtain ⟨cnt, st, cd, a1, a2, a3, a4, a5, a6⟩ := hI0
  have ha := (hB.1 a c (.inr ⟨rfl, rfl⟩)).1
  have hcb := (hB.1 a c (.inr ⟨rfl, rfl⟩)).2
  have hst : ∀ k, k < cnt → st k < 1024 ∧ cd k < 262144 := fun k hk => hB.1 _ _ (.inl (a5 k hk))
  obtain ⟨p, p1, p2, p3, p4⟩ := e1_place (F := F) (M := M) (h := h) a1 ha (fun k hk => (a3 k hk).1) a4 (fun k hk => (hst k hk).1) (nI h) (nI c) cnt F (Nat.le_refl _) (by omega) (fun k h1 h2 => by omega)
  have r4 := rf45 h hh
  have r9 := rf59 h hh
  have hrun : f_X1_addSet F (nI h) (nI a) (nI c) M = f_X1_addSet_b42 F (nI h) (nI a) (nI c) (46 + h) (nI cnt) (nI p) M := by
    unfold f_X1_addSet
    rw [← p4]
    simp (disch := omega) only [pn_lt, pn_ltM, pl_ofN, ↓pl_m1, pl_lit, fa_litL, pn_bs, ck_n, ckh_n, ck_t, ckh_t, nI_add, nI_clamp, nI_ltI, nI_leI, nI_eq, m1_eq, m1_eq2, m1_lt, m1_le, m1_lt2, m1_le2, m1_m1, nI_m1, nI_subn, gb_n, Nat.add_zero, Nat.zero_add, Nat.zero_or, Nat.or_zero, nle_f, nle_t, nlt_f, nlt_t, neq_f, neq_t, Bool.false_eq_true, eq_self, if_true, if_false, ite_true, ite_false, and_true, true_and, and_false, false_and, decide_true, decide_false, Bool.and_true, Bool.true_and, Bool.and_false, Bool.false_and, Bool.or_false, Bool.false_or, Bool.or_true, Bool.true_or, Bool.not_true, Bool.not_false, not_true_eq_false, not_false_eq_true, r4, a2]
  by_cases e : p < cnt ∧ st p = a
  · -- it is there
    obtain ⟨e1, e2⟩ := e
    obtain ⟨u1, u2⟩ := a3 p e1
    obtain ⟨v1, v2⟩ := hst p e1
    refine ⟨gst M (60 + h) p (nI (if c < cd p then c else cd p)), ?_, ⟨cnt, st, fun k => if k = p then (if c < cd p then c else cd p) else cd k, a1, ?_, fun k hk => ⟨?_, ?_⟩, a4, fun k hk => ?_, fun x y hxy => ?_⟩, fun k j n1 n2 n3 => ?_⟩
    · rw [hrun]
      unfold f_X1_addSet_b42
      by_cases z : c < cd p
      · simp (disch := omega) only [pn_lt, pn_ltM, pl_ofN, ↓pl_m1, pl_lit, fa_litL, pn_bs, ck_n, ckh_n, ck_t, ckh_t, nI_add, nI_clamp, nI_ltI, nI_leI, nI_eq, m1_eq, m1_eq2, m1_lt, m1_le, m1_lt2, m1_le2, m1_m1, nI_m1, nI_subn, gb_n, Nat.add_zero, Nat.zero_add, Nat.zero_or, Nat.or_zero, nle_f, nle_t, nlt_f, nlt_t, neq_f, neq_t, Bool.false_eq_true, eq_self, if_true, if_false, ite_true, ite_false, and_true, true_and, and_false, false_and, decide_true, decide_false, Bool.and_true, Bool.true_and, Bool.and_false, Bool.false_and, Bool.or_false, Bool.false_or, Bool.or_true, Bool.true_or, Bool.not_true, Bool.not_false, not_true_eq_false, not_false_eq_true, r9, u1, u2, e2, z]
      · simp (disch := omega) only [pn_lt, pn_ltM, pl_ofN, ↓pl_m1, pl_lit, fa_litL, pn_bs, ck_n, ckh_n, ck_t, ckh_t, nI_add, nI_clamp, nI_ltI, nI_leI, nI_eq, m1_eq, m1_eq2, m1_lt, m1_le, m1_lt2, m1_le2, m1_m1, nI_m1, nI_subn, gb_n, Nat.add_zero, Nat.zero_add, Nat.zero_or, Nat.or_zero, nle_f, nle_t, nlt_f, nlt_t, neq_f, neq_t, Bool.false_eq_true, eq_self, if_true, if_false, ite_true, ite_false, and_true, true_and, and_false, false_and, decide_true, decide_false, Bool.and_true, Bool.true_and, Bool.and_false, Bool.false_and, Bool.or_false, Bool.false_or, Bool.or_true, Bool.true_or, Bool.not_true, Bool.not_false, not_true_eq_false, not_false_eq_true, r9, u1, u2, e2, z]
    · rw [gst_v, if_neg (by omega)]; exact a2
    · rw [gst_v, if_neg (by omega)]; exact (a3 k hk).1
    · rw [gst_v]
      dsimp only
      by_cases z : k = p
      · rw [if_pos ⟨rfl, z⟩, if_pos z]
      · rw [if_neg (fun y => z y.2), if_neg z]
        exact (a3 k hk).2
    · dsimp only
      by_cases z : k = p
      · rw [if_pos z, z]
        by_cases y : c < cd p
        · rw [if_pos y]; exact .inr ⟨e2, rfl⟩
        · rw [if_neg y]; exact .inl (a5 p e1)
      · rw [if_neg z]; exact .inl (a5 k hk)
    · dsimp only
      rcases hxy with hxy | ⟨z1, z2⟩
      · obtain ⟨k, b1, b2, b3⟩ := a6 x y hxy
        refine ⟨k, b1, b2, ?_⟩
        by_cases z : k = p
        · rw [if_pos z]
          rw [z] at b3
          split <;> omega
        · rw [if_neg z]; exact b3
      · refine ⟨p, e1, by rw [e2, z1], ?_⟩
        rw [if_pos rfl]
        split <;> omega
    · rw [gst_v, if_neg (by omega)]
  · -- it is new
    have hne : ∀ k, k < cnt → st k ≠ a := fun k hk z => by
      rcases Nat.lt_or_ge k p with y | y
      · have := p2 k y; omega
      · rcases Nat.lt_or_ge p k with y2 | y2
        · have := a4 p k y2 hk
          have := p3 p (Nat.le_refl _) (by omega)
          omega
        · have : k = p := by omega
          exact e ⟨by omega, by rw [← this]; exact z⟩
    have hgt : ∀ k, p ≤ k → k < cnt → a < st k := fun k h1 h2 => by
      have := p3 k h1 h2
      have := hne k h2
      omega
    have hst2 : ∀ i j, i < j → j < cnt + 1 → (if i < p then st i else if i = p then a else st (i - 1)) < (if j < p then st j else if j = p then a else st (j - 1)) := by
      intro i j hij hj
      by_cases z1 : j < p
      · rw [if_pos (show i < p by omega), if_pos z1]
        exact a4 i j hij (by omega)
      · by_cases z2 : j = p
        · rw [if_pos (show i < p by omega), if_neg z1, if_pos z2]
          exact p2 i (by omega)
        · rw [if_neg z1, if_neg z2]
          by_cases z3 : i < p
          · rw [if_pos z3]
            exact a4 i (j - 1) (by omega) (by omega)
          · by_cases z4 : i = p
            · rw [if_neg z3, if_pos z4]
              exact hgt (j - 1) (by omega) (by omega)
            · rw [if_neg z3, if_neg z4]
              exact a4 (i - 1) (j - 1) (by omega) (by omega)
    have hfew := hB.2 (cnt + 1) (fun i => if i < p then st i else if i = p then a else st (i - 1)) (fun i hi => by
      dsimp only
      by_cases z3 : i < p
      · rw [if_pos z3]; exact ⟨_, .inl (a5 i (by omega))⟩
      · by_cases z4 : i = p
        · rw [if_neg z3, if_pos z4]; exact ⟨c, .inr ⟨rfl, rfl⟩⟩
        · rw [if_neg z3, if_neg z4]; exact ⟨_, .inl (a5 (i - 1) (by omega))⟩) hst2
    obtain ⟨M', s1, s2, s3, s4, s5, s6, s7⟩ := e1_shift (a := a) (c := c) hF hh (show cnt < 64 by omega) p1 M
    refine ⟨M', ?_, ⟨cnt + 1, fun i => if i < p then st i else if i = p then a else st (i - 1), fun i => if i < p then cd i else if i = p then c else cd (i - 1), hfew, s3, fun k hk => ?_, hst2, fun k hk => ?_, fun x y hxy => ?_⟩, s2⟩
    · rw [hrun, ← s1]
      have hb81 : f_X1_addSet_b81 F (nI h) (nI a) (nI c) (46 + h) (nI cnt) (nI p) M = f_X1_addSet_h93 F (nI h) (nI a) (nI c) F (46 + h) (nI cnt) (nI p) (nI cnt) M := by
        unfold f_X1_addSet_b81
        rw [if_pos (by rw [show (64 : Int32) = nI 64 from rfl, nI_ltI (by omega) (by omega)]; omega)]
      unfold f_X1_addSet_b42
      by_cases z : p < cnt
      · obtain ⟨u1, u2⟩ := a3 p z
        obtain ⟨v1, v2⟩ := hst p z
        have z2 : ¬ st p = a := fun y => e ⟨z, y⟩
        simp (disch := omega) only [pn_lt, pn_ltM, pl_ofN, ↓pl_m1, pl_lit, fa_litL, pn_bs, ck_n, ckh_n, ck_t, ckh_t, nI_add, nI_clamp, nI_ltI, nI_leI, nI_eq, m1_eq, m1_eq2, m1_lt, m1_le, m1_lt2, m1_le2, m1_m1, nI_m1, nI_subn, gb_n, Nat.add_zero, Nat.zero_add, Nat.zero_or, Nat.or_zero, nle_f, nle_t, nlt_f, nlt_t, neq_f, neq_t, Bool.false_eq_true, eq_self, if_true, if_false, ite_true, ite_false, and_true, true_and, and_false, false_and, decide_true, decide_false, Bool.and_true, Bool.true_and, Bool.and_false, Bool.false_and, Bool.or_false, Bool.false_or, Bool.or_true, Bool.true_or, Bool.not_true, Bool.not_false, not_true_eq_false, not_false_eq_true, u1, hb81]
      · rw [if_pos (by rw [nI_leI (by omega) (by omega)]; omega), hb81]
    · dsimp only
      by_cases z3 : k < p
      · rw [if_pos z3, if_pos z3, (s4 k z3).1, (s4 k z3).2]
        exact a3 k (by omega)
      · by_cases z4 : k = p
        · rw [if_neg z3, if_pos z4, if_neg z3, if_pos z4, z4]
          exact ⟨s5, s6⟩
        · rw [if_neg z3, if_neg z4, if_neg z3, if_neg z4, (s7 k (by omega) (by omega)).1, (s7 k (by omega) (by omega)).2]
          exact a3 (k - 1) (by omega)
    · dsimp only
      by_cases z3 : k < p
      · rw [if_pos z3, if_pos z3]; exact .inl (a5 k (by omega))
      · by_cases z4 : k = p
        · rw [if_neg z3, if_pos z4, if_neg z3, if_pos z4]; exact .inr ⟨rfl, rfl⟩
        · rw [if_neg z3, if_neg z4, if_neg z3, if_neg z4]; exact .inl (a5 (k - 1) (by omega))
    · dsimp only
      rcases hxy with hxy | ⟨z1, z2⟩
      · obtain ⟨k, b1, b2, b3⟩ := a6 x y hxy
        by_cases z3 : k < p
        · exact ⟨k, by omega, by rw [if_pos z3]; exact b2, by rw [if_pos z3]; exact b3⟩
        · refine ⟨k + 1, by omega, ?_, ?_⟩
          · rw [if_neg (by omega), if_neg (by omega), Nat.add_sub_cancel]; exact b2
          · rw [if_neg (by omega), if_neg (by omega), Nat.add_sub_cancel]; exact b3
      · refine ⟨p, by omega, ?_, ?_⟩
        · rw [if_neg (by omega), if_pos rfl, z1]
        · rw [if_neg (by omega), if_pos rfl, z2]; exact Nat.le_refl _
end EV
