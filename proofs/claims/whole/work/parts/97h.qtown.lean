/-! town: the call -/
/-- the numbers of a new town -/
def tnD (D E : Nat → Nat → Nat) (L : List (Nat × Nat × Nat)) : Nat → Nat → Nat := fun c i =>
  if c = 0 then (if i = 0 then E 0 0 else if i = 1 then E 0 1 else if i = 2 then E 0 2 else if i = 4 then D 0 4 else if i = 10 then D 0 10 else if i = 9 then L.length else 0)
  else if c = 5 then 0 else if c = 17 then (lkG L i).1 else if c = 18 then (lkG L i).2.1 else if c = 19 then (lkG L i).2.2 else E c i
theorem tnD_E {D E : Nat → Nat → Nat} {L : List (Nat × Nat × Nat)} (c i : Nat) (q : c = 0 ∧ i ≤ 2 ∨ c = 1 ∨ c = 2 ∨ c = 3 ∨ c = 4 ∨ 6 ≤ c ∧ c ≤ 11) : tnD D E L c i = E c i := by
  unfold tnD
  rcases q with ⟨q, q2⟩ | q
  · rw [if_pos q]
    rcases (by omega : i = 0 ∨ i = 1 ∨ i = 2) with h | h | h <;> subst h <;> rw [q] <;> rfl
  · rw [if_neg (by omega), if_neg (by omega), if_neg (by omega), if_neg (by omega), if_neg (by omega)]
/-- the model's start -/
def mS (N : gM) : gM := gst (gst (gst (gst (gst (gst N 95 15 (nI 0)) 95 18 (nI 0)) 95 19 m1) 108 4 (nI 0)) 108 5 (nI 0)) 108 6 (nI 0)
/-- the class's start -/
def cS (N : gM) : gM := gst (gst (gst (gst (gst (gst N 14 10 (nI 0)) 14 11 (nI 0)) 14 12 (nI 0)) 25 2 (nI 0)) 25 4 (nI 0)) 25 5 m1
theorem mS_fr (N : gM) (k j : Nat) (h : ¬ (k = 95 ∧ 15 ≤ j ∧ j ≤ 19)) (h2 : ¬ (k = 108 ∧ 4 ≤ j)) : mS N k j = N k j := by
  unfold mS
  rw [gst_v, if_neg (by omega), gst_v, if_neg (by omega), gst_v, if_neg (by omega), gst_v, if_neg (by omega), gst_v, if_neg (by omega), gst_v, if_neg (by omega)]
theorem cS_fr (N : gM) (k j : Nat) (h : k ≠ 14) (h2 : k ≠ 25) : cS N k j = N k j := by
  unfold cS
  rw [gst_v, if_neg (by omega), gst_v, if_neg (by omega), gst_v, if_neg (by omega), gst_v, if_neg (by omega), gst_v, if_neg (by omega), gst_v, if_neg (by omega)]
theorem mS_run (F : Nat) (N : gM) : f_X9_town F N = f_X9_town_h37 F F (mS N) := by
  unfold f_X9_town mS
  simp (disch := omega) only [pn_lt, pn_ltM, pl_ofN, ↓pl_m1, pl_lit, fa_litL, pn_bs, ck_n, ckh_n, ck_t, ckh_t, nI_add, nI_clamp, nI_ltI, nI_leI, nI_eq, m1_eq, m1_eq2, m1_lt, m1_le, m1_lt2, m1_le2, m1_m1, nI_m1, nI_subn, gb_n, Nat.add_zero, Nat.zero_add, Nat.zero_or, Nat.or_zero, nle_f, nle_t, nlt_f, nlt_t, neq_f, neq_t, Bool.false_eq_true, eq_self, if_true, if_false, ite_true, ite_false, and_true, true_and, and_false, false_and, decide_true, decide_false, Bool.and_true, Bool.true_and, Bool.and_false, Bool.false_and, Bool.or_false, Bool.false_or, Bool.or_true, Bool.true_or, Bool.not_true, Bool.not_false, not_true_eq_false, not_false_eq_true]
theorem cS_run (F : Nat) (N : gM) : f_X3_readTown F N = (f_X3_skipBlanks F (cS N)).bind (fun M => f_X3_readTown_h28 F F (nI 0) M) := by
  unfold f_X3_readTown f_X7_clear cS
  simp (disch := omega) only [pn_lt, pn_ltM, pl_ofN, ↓pl_m1, pl_lit, fa_litL, pn_bs, ck_n, ckh_n, ck_t, ckh_t, nI_add, nI_clamp, nI_ltI, nI_leI, nI_eq, m1_eq, m1_eq2, m1_lt, m1_le, m1_lt2, m1_le2, m1_m1, nI_m1, nI_subn, gb_n, Nat.add_zero, Nat.zero_add, Nat.zero_or, Nat.or_zero, nle_f, nle_t, nlt_f, nlt_t, neq_f, neq_t, Bool.false_eq_true, eq_self, if_true, if_false, ite_true, ite_false, and_true, true_and, and_false, false_and, decide_true, decide_false, Bool.and_true, Bool.true_and, Bool.and_false, Bool.false_and, Bool.or_false, Bool.false_or, Bool.or_true, Bool.true_or, Bool.not_true, Bool.not_false, not_true_eq_false, not_false_eq_true]
theorem zQ_start {T : Nat → Nat} {tl : Nat} {M N : gM} (h8 : xT8 T tl M) (h9 : xT9 T tl N) : zQ T tl (cS M) (mS N) 0 0 := by
  refine ⟨⟨?_, fun i hi => ?_⟩, ⟨?_, fun i hi => ?_⟩, by omega, ?_, ?_, ?_, Nat.zero_le _, ?_, fun _ => ?_⟩
  · rw [cS_fr _ _ _ (by omega) (by omega)]; exact h8.1
  · rw [cS_fr _ _ _ (by omega) (by omega)]; exact h8.2 i hi
  · rw [mS_fr _ _ _ (by omega) (by omega)]; exact h9.1
  · rw [mS_fr _ _ _ (by omega) (by omega)]; exact h9.2 i hi
  · unfold cS
    simp (disch := omega) only [pn_lt, pn_ltM, pl_ofN, ↓pl_m1, pl_lit, fa_litL, pn_bs, ck_n, ckh_n, ck_t, ckh_t, nI_add, nI_clamp, nI_ltI, nI_leI, nI_eq, m1_eq, m1_eq2, m1_lt, m1_le, m1_lt2, m1_le2, m1_m1, nI_m1, nI_subn, gb_n, Nat.add_zero, Nat.zero_add, Nat.zero_or, Nat.or_zero, nle_f, nle_t, nlt_f, nlt_t, neq_f, neq_t, Bool.false_eq_true, eq_self, if_true, if_false, ite_true, ite_false, and_true, true_and, and_false, false_and, decide_true, decide_false, Bool.and_true, Bool.true_and, Bool.and_false, Bool.false_and, Bool.or_false, Bool.false_or, Bool.or_true, Bool.true_or, Bool.not_true, Bool.not_false, not_true_eq_false, not_false_eq_true, gst_v]
  · unfold mS
    simp (disch := omega) only [pn_lt, pn_ltM, pl_ofN, ↓pl_m1, pl_lit, fa_litL, pn_bs, ck_n, ckh_n, ck_t, ckh_t, nI_add, nI_clamp, nI_ltI, nI_leI, nI_eq, m1_eq, m1_eq2, m1_lt, m1_le, m1_lt2, m1_le2, m1_m1, nI_m1, nI_subn, gb_n, Nat.add_zero, Nat.zero_add, Nat.zero_or, Nat.or_zero, nle_f, nle_t, nlt_f, nlt_t, neq_f, neq_t, Bool.false_eq_true, eq_self, if_true, if_false, ite_true, ite_false, and_true, true_and, and_false, false_and, decide_true, decide_false, Bool.and_true, Bool.true_and, Bool.and_false, Bool.false_and, Bool.or_false, Bool.false_or, Bool.or_true, Bool.true_or, Bool.not_true, Bool.not_false, not_true_eq_false, not_false_eq_true, gst_v]
  · unfold cS mS
    simp (disch := omega) only [pn_lt, pn_ltM, pl_ofN, ↓pl_m1, pl_lit, fa_litL, pn_bs, ck_n, ckh_n, ck_t, ckh_t, nI_add, nI_clamp, nI_ltI, nI_leI, nI_eq, m1_eq, m1_eq2, m1_lt, m1_le, m1_lt2, m1_le2, m1_m1, nI_m1, nI_subn, gb_n, Nat.add_zero, Nat.zero_add, Nat.zero_or, Nat.or_zero, nle_f, nle_t, nlt_f, nlt_t, neq_f, neq_t, Bool.false_eq_true, eq_self, if_true, if_false, ite_true, ite_false, and_true, true_and, and_false, false_and, decide_true, decide_false, Bool.and_true, Bool.true_and, Bool.and_false, Bool.false_and, Bool.or_false, Bool.false_or, Bool.or_true, Bool.true_or, Bool.not_true, Bool.not_false, not_true_eq_false, not_false_eq_true, gst_v]
  · unfold cS
    simp (disch := omega) only [pn_lt, pn_ltM, pl_ofN, ↓pl_m1, pl_lit, fa_litL, pn_bs, ck_n, ckh_n, ck_t, ckh_t, nI_add, nI_clamp, nI_ltI, nI_leI, nI_eq, m1_eq, m1_eq2, m1_lt, m1_le, m1_lt2, m1_le2, m1_m1, nI_m1, nI_subn, gb_n, Nat.add_zero, Nat.zero_add, Nat.zero_or, Nat.or_zero, nle_f, nle_t, nlt_f, nlt_t, neq_f, neq_t, Bool.false_eq_true, eq_self, if_true, if_false, ite_true, ite_false, and_true, true_and, and_false, false_and, decide_true, decide_false, Bool.and_true, Bool.true_and, Bool.and_false, Bool.false_and, Bool.or_false, Bool.false_or, Bool.or_true, Bool.true_or, Bool.not_true, Bool.not_false, not_true_eq_false, not_false_eq_true, gst_v]
  · unfold mS
    simp (disch := omega) only [pn_lt, pn_ltM, pl_ofN, ↓pl_m1, pl_lit, fa_litL, pn_bs, ck_n, ckh_n, ck_t, ckh_t, nI_add, nI_clamp, nI_ltI, nI_leI, nI_eq, m1_eq, m1_eq2, m1_lt, m1_le, m1_lt2, m1_le2, m1_m1, nI_m1, nI_subn, gb_n, Nat.add_zero, Nat.zero_add, Nat.zero_or, Nat.or_zero, nle_f, nle_t, nlt_f, nlt_t, neq_f, neq_t, Bool.false_eq_true, eq_self, if_true, if_false, ite_true, ite_false, and_true, true_and, and_false, false_and, decide_true, decide_false, Bool.and_true, Bool.true_and, Bool.and_false, Bool.false_and, Bool.or_false, Bool.false_or, Bool.or_true, Bool.true_or, Bool.not_true, Bool.not_false, not_true_eq_false, not_false_eq_true, gst_v]
theorem zE_start (M N : gM) : zE (fun _ _ => 0) (cS M) (mS N) := by
  refine ⟨?_, ?_, ?_, ?_, ?_, ?_, fun p hp => absurd hp (Nat.not_lt_zero _), fun p hp => absurd hp (Nat.not_lt_zero _)⟩
  · unfold cS
    simp (disch := omega) only [pn_lt, pn_ltM, pl_ofN, ↓pl_m1, pl_lit, fa_litL, pn_bs, ck_n, ckh_n, ck_t, ckh_t, nI_add, nI_clamp, nI_ltI, nI_leI, nI_eq, m1_eq, m1_eq2, m1_lt, m1_le, m1_lt2, m1_le2, m1_m1, nI_m1, nI_subn, gb_n, Nat.add_zero, Nat.zero_add, Nat.zero_or, Nat.or_zero, nle_f, nle_t, nlt_f, nlt_t, neq_f, neq_t, Bool.false_eq_true, eq_self, if_true, if_false, ite_true, ite_false, and_true, true_and, and_false, false_and, decide_true, decide_false, Bool.and_true, Bool.true_and, Bool.and_false, Bool.false_and, Bool.or_false, Bool.false_or, Bool.or_true, Bool.true_or, Bool.not_true, Bool.not_false, not_true_eq_false, not_false_eq_true, gst_v]
  · unfold cS
    simp (disch := omega) only [pn_lt, pn_ltM, pl_ofN, ↓pl_m1, pl_lit, fa_litL, pn_bs, ck_n, ckh_n, ck_t, ckh_t, nI_add, nI_clamp, nI_ltI, nI_leI, nI_eq, m1_eq, m1_eq2, m1_lt, m1_le, m1_lt2, m1_le2, m1_m1, nI_m1, nI_subn, gb_n, Nat.add_zero, Nat.zero_add, Nat.zero_or, Nat.or_zero, nle_f, nle_t, nlt_f, nlt_t, neq_f, neq_t, Bool.false_eq_true, eq_self, if_true, if_false, ite_true, ite_false, and_true, true_and, and_false, false_and, decide_true, decide_false, Bool.and_true, Bool.true_and, Bool.and_false, Bool.false_and, Bool.or_false, Bool.false_or, Bool.or_true, Bool.true_or, Bool.not_true, Bool.not_false, not_true_eq_false, not_false_eq_true, gst_v]
  · unfold cS
    simp (disch := omega) only [pn_lt, pn_ltM, pl_ofN, ↓pl_m1, pl_lit, fa_litL, pn_bs, ck_n, ckh_n, ck_t, ckh_t, nI_add, nI_clamp, nI_ltI, nI_leI, nI_eq, m1_eq, m1_eq2, m1_lt, m1_le, m1_lt2, m1_le2, m1_m1, nI_m1, nI_subn, gb_n, Nat.add_zero, Nat.zero_add, Nat.zero_or, Nat.or_zero, nle_f, nle_t, nlt_f, nlt_t, neq_f, neq_t, Bool.false_eq_true, eq_self, if_true, if_false, ite_true, ite_false, and_true, true_and, and_false, false_and, decide_true, decide_false, Bool.and_true, Bool.true_and, Bool.and_false, Bool.false_and, Bool.or_false, Bool.false_or, Bool.or_true, Bool.true_or, Bool.not_true, Bool.not_false, not_true_eq_false, not_false_eq_true, gst_v]
  · unfold mS
    simp (disch := omega) only [pn_lt, pn_ltM, pl_ofN, ↓pl_m1, pl_lit, fa_litL, pn_bs, ck_n, ckh_n, ck_t, ckh_t, nI_add, nI_clamp, nI_ltI, nI_leI, nI_eq, m1_eq, m1_eq2, m1_lt, m1_le, m1_lt2, m1_le2, m1_m1, nI_m1, nI_subn, gb_n, Nat.add_zero, Nat.zero_add, Nat.zero_or, Nat.or_zero, nle_f, nle_t, nlt_f, nlt_t, neq_f, neq_t, Bool.false_eq_true, eq_self, if_true, if_false, ite_true, ite_false, and_true, true_and, and_false, false_and, decide_true, decide_false, Bool.and_true, Bool.true_and, Bool.and_false, Bool.false_and, Bool.or_false, Bool.false_or, Bool.or_true, Bool.true_or, Bool.not_true, Bool.not_false, not_true_eq_false, not_false_eq_true, gst_v]
  · unfold mS
    simp (disch := omega) only [pn_lt, pn_ltM, pl_ofN, ↓pl_m1, pl_lit, fa_litL, pn_bs, ck_n, ckh_n, ck_t, ckh_t, nI_add, nI_clamp, nI_ltI, nI_leI, nI_eq, m1_eq, m1_eq2, m1_lt, m1_le, m1_lt2, m1_le2, m1_m1, nI_m1, nI_subn, gb_n, Nat.add_zero, Nat.zero_add, Nat.zero_or, Nat.or_zero, nle_f, nle_t, nlt_f, nlt_t, neq_f, neq_t, Bool.false_eq_true, eq_self, if_true, if_false, ite_true, ite_false, and_true, true_and, and_false, false_and, decide_true, decide_false, Bool.and_true, Bool.true_and, Bool.and_false, Bool.false_and, Bool.or_false, Bool.false_or, Bool.or_true, Bool.true_or, Bool.not_true, Bool.not_false, not_true_eq_false, not_false_eq_true, gst_v]
  · unfold mS
    simp (disch := omega) only [pn_lt, pn_ltM, pl_ofN, ↓pl_m1, pl_lit, fa_litL, pn_bs, ck_n, ckh_n, ck_t, ckh_t, nI_add, nI_clamp, nI_ltI, nI_leI, nI_eq, m1_eq, m1_eq2, m1_lt, m1_le, m1_lt2, m1_le2, m1_m1, nI_m1, nI_subn, gb_n, Nat.add_zero, Nat.zero_add, Nat.zero_or, Nat.or_zero, nle_f, nle_t, nlt_f, nlt_t, neq_f, neq_t, Bool.false_eq_true, eq_self, if_true, if_false, ite_true, ite_false, and_true, true_and, and_false, false_and, decide_true, decide_false, Bool.and_true, Bool.true_and, Bool.and_false, Bool.false_and, Bool.or_false, Bool.false_or, Bool.or_true, Bool.true_or, Bool.not_true, Bool.not_false, not_true_eq_false, not_false_eq_true, gst_v]
theorem zB_start : zB (fun _ _ => 0) :=
  ⟨⟨Nat.zero_le _, Nat.zero_le _, Nat.zero_le _, fun p hp => absurd hp (Nat.not_lt_zero _), fun p hp => absurd hp (Nat.not_lt_zero _), rfl⟩, fun p hp => absurd hp (Nat.not_lt_zero _), fun p q hp => absurd hp (Nat.not_lt_zero _)⟩
theorem e8_town_run (F : Nat) (M A : gM) (fn : Nat) (hfn : fn ≤ 4) (h : f_X3_readTown F M = some (nI fn, A)) : f_X8_town F M = if fn = 0 then tl8e F (gst (gst A 0 13 (A 25 5)) 1 1 (nI 0)) else some ((-10 : Int32) - nI fn, gst (gst A 0 13 (A 25 5)) 1 1 (nI 0)) := by
  unfold f_X8_town
  rw [h, pn_bs, pn_lt, pn_ltM, pn_ltM]
  by_cases c : fn = 0
  · subst c
    rw [if_pos (show nI 0 = (0 : Int32) from rfl), if_pos rfl]
    rfl
  · dsimp only
    rw [if_neg c, if_neg (show ¬ nI fn = (0 : Int32) from fun q => c (nI_inj (b := 0) (by omega) (by omega) q))]
    rfl
theorem e9_town_bad {F fn : Nat} {A : gM} (h1 : fn ≠ 0) (h4 : fn ≤ 4) (h : A 95 18 = nI fn) : f_X9_town_b101 F A = some ((-10 : Int32) - nI fn, gst A 95 14 (nI 0)) := by
  have e : gst A 95 14 (0 : Int32) 95 18 = nI fn := by rw [gst_v, if_neg (by omega), h]
  unfold f_X9_town_b101
  rw [pn_ltM, e, if_neg (by rw [show (0 : Int32) = nI 0 from rfl, nI_leI (by omega) (by omega)]; omega)]
  rfl
theorem q_town {F : Nat} (hF : 4000 ≤ F) (M : gM) (h : qR M) : eqW (f_X8_town F M) (f_X9_town F) := by
  obtain ⟨D, ⟨w1, w2, w3, w4⟩, hT, hS, hX, hL, hG, hB, hFI, hb⟩ := id h
  have hn := w1.1
  have h400 := w3.1
  have xb : xTb (D 12) (D 0 3) := ⟨w3.1, w3.2.2.2.1⟩
  have x8 : xT8 (D 12) (D 0 3) M := ⟨hX.1, fun i hi => (hX.2.2 i hi).1⟩
  have x9 : xT9 (D 12) (D 0 3) M := ⟨hX.2.1, fun i hi => (hX.2.2 i hi).2⟩
  obtain ⟨fn, t, A8, A9, E, p1, p2, p3, p4, p5, p6⟩ := z_loop hF xb (D 0 3) 0 (fun _ _ => 0) (cS M) (mS M) F F 0 (by omega) (by omega) (by omega) (by omega) (zQ_start x8 x9) (zE_start M M) zB_start
  have hrd : f_X3_readTown F M = some (nI fn, A8) := (cS_run F M).trans p1
  have hfn := p3.2.2.1
  have run8 := e8_town_run F M A8 fn hfn hrd
  have a8 : ∀ k j, ¬ (14 ≤ k ∧ k ≤ 25) → A8 k j = M k j := fun k j n => (p4 k j n).trans (cS_fr M k j (by omega) (by omega))
  -- the model, from a memory that the class left
  have again : ∀ C : gM, (∀ k, 94 ≤ k → C k = M k) → ∃ t2 B9 E2, f_X9_town F C = f_X9_town_b101 F B9 ∧ zQ (D 12) (D 0 3) A8 B9 fn t2 ∧ fk9 (mS C) B9 ∧ (fn = 0 → zE E2 A8 B9 ∧ zB E2) := by
    intro C hC
    have y9 : xT9 (D 12) (D 0 3) C := ⟨by rw [hC _ (by omega)]; exact x9.1, fun i hi => by rw [hC _ (by omega)]; exact x9.2 i hi⟩
    obtain ⟨fn2, t2, B8, B9, E2, r1, r2, r3, r4, r5, r6⟩ := z_loop hF xb (D 0 3) 0 (fun _ _ => 0) (cS M) (mS C) F F 0 (by omega) (by omega) (by omega) (by omega) (zQ_start x8 y9) (zE_start M C) zB_start
    have e := p1.symm.trans r1
    have e2 := Option.some.inj e
    have e3 : nI fn = nI fn2 := congrArg Prod.fst e2
    have e4 : A8 = B8 := congrArg Prod.snd e2
    have hfn2 := r3.2.2.1
    have e5 : fn = fn2 := nI_inj (by omega) (by omega) e3
    subst e5
    subst e4
    exact ⟨t2, B9, E2, (mS_run F C).trans r2, r3, r5, r6⟩
  by_cases c : fn = 0
  · subst c
    rw [if_pos rfl] at run8
    obtain ⟨hE, hBz⟩ := p6 rfl
    have hE8 : zE8 E (gst (gst A8 0 13 (A8 25 5)) 1 1 (nI 0)) := by
      obtain ⟨o1, o2, o3, o4, o5⟩ := zE_8 hE
      have g : ∀ k j, 14 ≤ k → (gst (gst A8 0 13 (A8 25 5)) 1 1 (nI 0)) k j = A8 k j := fun k j hk => by rw [gst_v, if_neg (by omega), gst_v, if_neg (by omega)]
      refine ⟨by rw [g _ _ (by omega)]; exact o1, by rw [g _ _ (by omega)]; exact o2, by rw [g _ _ (by omega)]; exact o3, fun p hp => ?_, fun s hs => ?_⟩
      · obtain ⟨u1, u2, u3, u4, u5, u6, u7⟩ := o4 p hp
        exact ⟨by rw [g _ _ (by omega)]; exact u1, by rw [g _ _ (by omega)]; exact u2, by rw [g _ _ (by omega)]; exact u3, by rw [g _ _ (by omega)]; exact u4, by rw [g _ _ (by omega)]; exact u5, by rw [g _ _ (by omega)]; exact u6, by rw [g _ _ (by omega)]; exact u7⟩
      · obtain ⟨u1, u2, u3⟩ := o5 s hs
        exact ⟨by rw [g _ _ (by omega)]; exact u1, by rw [g _ _ (by omega)]; exact u2, by rw [g _ _ (by omega)]; exact u3⟩
    obtain ⟨C, c1, c2, c3, c4, c5, c6, c7, c8, c9, c10, c11, c12, c13, c14, c15, c16, c17, c18⟩ := e8_tail hF hBz hE8
    have hC : ∀ k, 94 ≤ k → C k = M k := fun k hk => by
      rw [c2 k (by omega) (by omega) (by omega) (by omega) (by omega), gst_ne _ _ _ _ (by omega), gst_ne _ _ _ _ (by omega)]
      funext j
      exact a8 k j (by omega)
    obtain ⟨t2, B9, E2, r1, r2, r3, r4⟩ := again C hC
    obtain ⟨hE2, hB2⟩ := r4 rfl
    -- the same half-read town
    have hz8 := zE_8 hE
    have hz82 := zE_8 hE2
    have q00 : E2 0 0 = E 0 0 := nI_inj (by have := hB2.1.1; omega) (by have := hBz.1.1; omega) (hz82.1.symm.trans hz8.1)
    have q01 : E2 0 1 = E 0 1 := nI_inj (by have := hB2.1.2.1; omega) (by have := hBz.1.2.1; omega) (hz82.2.2.1.symm.trans hz8.2.2.1)
    have qp : ∀ p, p < E 0 0 → E2 1 p = E 1 p ∧ E2 2 p = E 2 p ∧ E2 3 p = E 3 p ∧ E2 4 p = E 4 p ∧ E2 6 p = E 6 p ∧ E2 7 p = E 7 p ∧ E2 8 p = E 8 p := by
      intro p hp
      have hp2 : p < E2 0 0 := by rw [q00]; exact hp
      obtain ⟨u1, u2, u3, u4, u5, u6, u7⟩ := hz8.2.2.2.1 p hp
      obtain ⟨v1, v2, v3, v4, v5, v6, v7⟩ := hz82.2.2.2.1 p hp2
      obtain ⟨x1, x2, x3, x4, x5⟩ := hBz.1.2.2.2.1 p hp
      obtain ⟨y1, y2, y3, y4, y5⟩ := hB2.1.2.2.2.1 p hp2
      obtain ⟨x6, x7⟩ := hBz.2.1 p hp
      obtain ⟨y6, y7⟩ := hB2.2.1 p hp2
      have x8' := Nat.lt_of_lt_of_le x5 (p2_31 hBz.1.1)
      have y8' := Nat.lt_of_lt_of_le y5 (p2_31 hB2.1.1)
      exact ⟨nI_inj (by omega) (by omega) (v1.symm.trans u1), nI_inj (by omega) (by omega) (v2.symm.trans u2), nI_inj (by omega) (by omega) (v3.symm.trans u3), nI_inj (by omega) (by omega) (v4.symm.trans u4), nI_inj (by omega) (by omega) (v5.symm.trans u5), nI_inj (by omega) (by omega) (v6.symm.trans u6), nI_inj (by omega) (by omega) (v7.symm.trans u7)⟩
    have qs : ∀ s, s < E 0 1 → E2 9 s = E 9 s ∧ E2 10 s = E 10 s ∧ E2 11 s = E 11 s := by
      intro s hs
      have hs2 : s < E2 0 1 := by rw [q01]; exact hs
      obtain ⟨u1, u2, u3⟩ := hz8.2.2.2.2 s hs
      obtain ⟨v1, v2, v3⟩ := hz82.2.2.2.2 s hs2
      obtain ⟨x1, x2, x3⟩ := hBz.1.2.2.2.2.1 s hs
      obtain ⟨y1, y2, y3⟩ := hB2.1.2.2.2.2.1 s hs2
      exact ⟨nI_inj (by omega) (by omega) (v1.symm.trans u1), nI_inj (by omega) (by omega) (v2.symm.trans u2), nI_inj (by omega) (by omega) (v3.symm.trans u3)⟩
    have hE9 : zE9 E B9 := by
      obtain ⟨o1, o2, o3, o4⟩ := zE_9 hE2
      refine ⟨by rw [← q00]; exact o1, by rw [← q01]; exact o2, fun p hp => ?_, fun s hs => ?_⟩
      · obtain ⟨u1, u2, u3, u4, u5, u6, u7⟩ := o3 p (by rw [q00]; exact hp)
        obtain ⟨v1, v2, v3, v4, v5, v6, v7⟩ := qp p hp
        exact ⟨by rw [← v1]; exact u1, by rw [← v2]; exact u2, by rw [← v3]; exact u3, by rw [← v4]; exact u4, by rw [← v5]; exact u5, by rw [← v6]; exact u6, by rw [← v7]; exact u7⟩
      · obtain ⟨u1, u2, u3⟩ := o4 s (by rw [q01]; exact hs)
        obtain ⟨v1, v2, v3⟩ := qs s hs
        exact ⟨by rw [← v1]; exact u1, by rw [← v2]; exact u2, by rw [← v3]; exact u3⟩
    obtain ⟨G, g1, g2, g3, g4, g5, g6, g7, g8, g9, g10, g11, g12, g13, g14, g15⟩ := e9_tail hF hBz hE9 r2.2.2.2.2.1
    have h36 := lkA_36 E hBz.1.1
    have hP := lkA_P (E := E) (n := E 0 0) (E 0 0) (Nat.le_refl _)
    -- frames
    have fB : ∀ k j, ¬ (k = 95 ∧ 15 ≤ j ∧ j ≤ 19) → ¬ (98 ≤ k ∧ k ≤ 108) → B9 k j = C k j := fun k j n1 n2 => (r3 k j n1 (by omega) (by omega) (by omega)).trans (mS_fr C k j n1 (by omega))
    have f94 : ∀ k j, k < 95 → G k j = C k j := fun k j hk => by
      rw [g2 k j (by omega) (by omega) (by omega) (by omega) (by omega) (by omega) (by omega), fB k j (by omega) (by omega)]
    have c5' : C 26 5 = nI (D 0 4) := by
      rw [c3, gst_v, if_neg (by omega), gst_v, if_neg (by omega), a8 _ _ (by omega)]; exact hS.2.1
    have c6' : C 26 6 = nI (D 0 10) := by
      rw [c4, gst_v, if_neg (by omega), gst_v, if_neg (by omega), a8 _ _ (by omega)]; exact hS.2.2.1
    have c11' : C 1 1 = nI 0 := by rw [c2 _ (by omega) (by omega) (by omega) (by omega) (by omega), gst_v, if_pos ⟨rfl, rfl⟩]
    have c013 : C 0 13 = A8 25 5 := by rw [c2 _ (by omega) (by omega) (by omega) (by omega) (by omega), gst_v, if_neg (by omega), gst_v, if_pos ⟨rfl, rfl⟩]
    have g19 : G 95 19 = B9 95 19 := g2 _ _ (by omega) (by omega) (by omega) (by omega) (by omega) (by omega) (by omega)
    have gl : ∀ j, j = 31 ∨ j = 33 → G 96 j = M 96 j := fun j hj => by
      rw [g2 _ _ (by omega) (by omega) (by omega) (by omega) (by omega) (by omega) (by omega), fB _ _ (by omega) (by omega), hC _ (by omega)]
    have L96a : M 96 31 = nI (D 0 4) := hS.2.2.2.2.1
    have L96b : M 96 33 = nI (D 0 10) := hS.2.2.2.2.2.1
    have g22 : G 95 22 = 0 := by
      rw [g2 _ _ (by omega) (by omega) (by omega) (by omega) (by omega) (by omega) (by omega), fB _ _ (by omega) (by omega), hC _ (by omega)]
      exact hb
    refine ⟨nI (E 0 0), C, G, run8.trans c1, r1.trans g1, tnD D E (lkA E (E 0 0) (E 0 0)), ⟨qBT_D hBz.1 (fun cc i q => tnD_E cc i (by omega)), ⟨h36, fun i hi => ?_⟩, ⟨Nat.zero_le _, Nat.zero_le _, Nat.zero_le _, fun i hi => absurd hi (Nat.not_lt_zero _), fun i hi => absurd hi (Nat.not_lt_zero _), fun i hi => absurd hi (Nat.not_lt_zero _)⟩, ⟨w4.1, Nat.zero_le _, w4.2.2.1, fun p hp => ?_, fun p hp => Nat.zero_le _, fun p _ _ => rfl⟩⟩, ⟨?_, ?_, ?_, ?_, ?_, fun p hp => ?_, fun s hs => ?_⟩, ⟨?_, ?_, ?_, ?_, ?_, ?_, ?_, fun p hp => ?_, fun p hp => ?_⟩, ⟨?_, ?_, fun i hi => absurd hi (Nat.not_lt_zero _)⟩, ⟨?_, ?_, fun i hi => ?_⟩, ⟨?_, ?_, fun i hi => absurd hi (Nat.not_lt_zero _)⟩, ⟨?_, ?_, fun i hi => absurd hi (Nat.not_lt_zero _)⟩, ⟨?_, fun i hi => ?_⟩, g22⟩
    · -- qBL
      have hi' : i < (lkA E (E 0 0) (E 0 0)).length := hi
      obtain ⟨u1, u2, u3, u4, u5, u6⟩ := lkG_P hP hi'
      exact ⟨u1, u2, u3, u4, u5, u6⟩
    · exact hBz.2.1 p hp
    · rw [f94 _ _ (by omega)]; exact c7
    · rw [f94 _ _ (by omega)]; exact c9
    · rw [f94 _ _ (by omega)]; exact c8
    · exact g10
    · exact g11
    · obtain ⟨u1, u2, u3, u4, u5, u6, u7⟩ := c10 p hp
      obtain ⟨v1, v2, v3, v4, v5, v6, v7, v8⟩ := g12 p hp
      exact ⟨by rw [f94 _ _ (by omega)]; exact u1, by rw [f94 _ _ (by omega)]; exact u2, by rw [f94 _ _ (by omega)]; exact u3, by rw [f94 _ _ (by omega)]; exact u4, by rw [f94 _ _ (by omega)]; exact u5, v1, v2, v3, v4, v5⟩
    · obtain ⟨u1, u2, u3⟩ := c11 s hs
      obtain ⟨v1, v2, v3⟩ := g13 s hs
      exact ⟨by rw [f94 _ _ (by omega)]; exact u1, by rw [f94 _ _ (by omega)]; exact u2, by rw [f94 _ _ (by omega)]; exact u3, v1, v2, v3⟩
    · rw [f94 _ _ (by omega)]; exact c5
    · rw [f94 _ _ (by omega)]; exact c5'
    · rw [f94 _ _ (by omega)]; exact c6'
    · exact g8
    · exact (gl 31 (by omega)).trans L96a
    · exact (gl 33 (by omega)).trans L96b
    · rw [f94 26 4 (by omega), c6]; exact g9
    · obtain ⟨u1, u2, u3, u4, u5, u6, u7⟩ := c10 p hp
      obtain ⟨v1, v2, v3, v4, v5, v6, v7, v8⟩ := g12 p hp
      refine ⟨by rw [f94 _ _ (by omega)]; exact u6, by rw [f94 _ _ (by omega)]; exact u7, ?_, ?_, ?_⟩
      · rw [Nat.zero_add]; exact v6
      · rw [Nat.zero_add]; exact v7
      · rw [Nat.zero_add]; exact v8
    · rw [f94 _ _ (by omega)]; exact c12 p hp
    · rw [f94 _ _ (by omega)]; exact c11'
    · exact g3
    · rw [f94 _ _ (by omega)]; exact c13
    · exact g14
    · obtain ⟨u1, u2, u3⟩ := c14 i hi
      exact ⟨by rw [f94 _ _ (by omega)]; exact u1, by rw [f94 _ _ (by omega)]; exact u2, by rw [f94 _ _ (by omega)]; exact u3, g15 i hi⟩
    · rw [f94 _ _ (by omega)]; exact c15
    · exact g4
    · rw [f94 _ _ (by omega)]; exact c16
    · exact g5
    · rw [g19, f94 _ _ (by omega), c013]; exact r2.2.2.2.2.2.1.symm
    · have e38 : G 38 i = nI 0 ∧ G 97 i = nI 0 := by
        rcases (by omega : i = 0 ∨ i = 1) with q | q <;> subst q
        · exact ⟨by rw [f94 _ _ (by omega)]; exact c17, g6⟩
        · exact ⟨by rw [f94 _ _ (by omega)]; exact c18, g7⟩
      refine ⟨e38.2.trans e38.1.symm, .inl e38.1, fun q => ?_⟩
      rw [e38.1] at q
      exact absurd q (by decide)
  · rw [if_neg c] at run8
    have hC : ∀ k, 94 ≤ k → (gst (gst A8 0 13 (A8 25 5)) 1 1 (nI 0)) k = M k := fun k hk => by
      rw [gst_ne _ _ _ _ (by omega), gst_ne _ _ _ _ (by omega)]
      funext j
      exact a8 k j (by omega)
    obtain ⟨t2, B9, E2, r1, r2, r3, -⟩ := again _ hC
    have r9 := r1.trans (e9_town_bad c hfn r2.2.2.2.2.1)
    have fG : ∀ k j, ¬ (14 ≤ k ∧ k ≤ 25) → ¬ (k = 0 ∧ j = 13) → ¬ (k = 1 ∧ j = 1) → ¬ (k = 95 ∧ 14 ≤ j ∧ j ≤ 19) → ¬ (98 ≤ k ∧ k ≤ 104 ∧ 10 ≤ j) → ¬ (105 ≤ k ∧ k ≤ 107 ∧ 8 ≤ j) → ¬ (k = 108 ∧ 4 ≤ j) → gst B9 95 14 (nI 0) k j = M k j := fun k j n1 n2 n3 n4 n5 n6 n7 => by
      rw [gst_v, if_neg (by omega), r3 k j (by omega) n5 n6 n7, mS_fr _ k j (by omega) n7, gst_v, if_neg (by omega), gst_v, if_neg (by omega), a8 k j n1]
    refine ⟨_, _, _, run8, r9, dset D 0 3 0, ⟨?_, ?_, ?_, ?_⟩, ?_, ?_, ?_, ?_, ?_, ?_, ?_, ?_⟩
    · exact qBT_D w1 (fun c i q => by rw [dset_v, if_neg (by omega)])
    · exact qBL_D w2 (fun c i q => by rw [dset_v, if_neg (by omega)])
    · obtain ⟨x1, x2, x3, x4, x5, x6⟩ := w3
      exact ⟨Nat.zero_le _, x2, x3, fun i hi => absurd hi (Nat.not_lt_zero _), x5, x6⟩
    · exact qBV_D w4 (fun c i q => by rw [dset_v, if_neg (by omega)])
    · exact qTW_D (qTW_fr hT w1.1 w1.2.1 (fun k i q => fG k i (by omega) (by omega) (by omega) (by omega) (by omega) (by omega) (by omega))) (fun c i q => by rw [dset_v, if_neg (by omega)])
    · exact qSV_D (qSV_fr hS w1.1 (fun k i q => fG k i (by omega) (by omega) (by omega) (by omega) (by omega) (by omega) (by omega))) (fun c i q => by rw [dset_v, if_neg (by omega)])
    · refine ⟨?_, ?_, fun i hi => absurd hi (Nat.not_lt_zero _)⟩
      · rw [gst_v, if_neg (by omega), r3 _ _ (by omega) (by omega) (by omega) (by omega), mS_fr _ _ _ (by omega) (by omega), gst_v, if_pos ⟨rfl, rfl⟩]
        rfl
      · rw [gst_v, if_pos ⟨rfl, rfl⟩]
        rfl
    · exact qLK_D (qLK_fr hL (fun k i q => fG k i (by omega) (by omega) (by omega) (by omega) (by omega) (by omega) (by omega))) (fun c i q => by rw [dset_v, if_neg (by omega)])
    · exact qSG_D (qSG_fr hG (fun k i q => fG k i (by omega) (by omega) (by omega) (by omega) (by omega) (by omega) (by omega))) (fun c i q => by rw [dset_v, if_neg (by omega)])
    · exact qBK_D (qBK_fr hB (fun k i q => fG k i (by omega) (by omega) (by omega) (by omega) (by omega) (by omega) (by omega))) (fun c i q => by rw [dset_v, if_neg (by omega)])
    · refine ⟨?_, fun i hi => ?_⟩
      · rw [gst_v, if_neg (by omega), gst_v, if_neg (by omega), r3 0 13 (by omega) (by omega) (by omega) (by omega), mS_fr _ _ _ (by omega) (by omega), gst_v, if_neg (by omega), gst_v, if_pos ⟨rfl, rfl⟩]
        exact r2.2.2.2.2.2.1.symm
      · obtain ⟨u1, u2, u3⟩ := hFI.2 i hi
        have e97 : gst B9 95 14 (nI 0) 97 i = M 97 i := fG _ _ (by omega) (by omega) (by omega) (by omega) (by omega) (by omega) (by omega)
        have e38 : gst B9 95 14 (nI 0) 38 i = M 38 i := fG _ _ (by omega) (by omega) (by omega) (by omega) (by omega) (by omega) (by omega)
        refine ⟨by rw [e97, e38]; exact u1, by rw [e38]; exact u2, fun q => ?_⟩
        rw [e38] at q
        obtain ⟨Ei, v1, v2⟩ := u3 q
        exact ⟨Ei, v1, qSV_fr v2 w1.1 (fun k j hk => fG k j (by omega) (by omega) (by omega) (by omega) (by omega) (by omega) (by omega))⟩
    · rw [fG _ _ (by omega) (by omega) (by omega) (by omega) (by omega) (by omega) (by omega)]
      exact hb
