/-! gather: the sets of every hour -/
theorem qB_sub {Q Q' : Nat → Nat → Prop} (h : qB Q') (s : ∀ a c, Q a c → Q' a c) : qB Q :=
  ⟨fun a c q => h.1 a c (s a c q), fun L f h1 h2 => h.2 L f (fun i hi => by obtain ⟨c, hc⟩ := h1 i hi; exact ⟨c, s _ _ hc⟩) h2⟩
theorem qB_CR {D : Nat → Nat → Nat} (hW : qWF D) (bn h u k : Nat) : qB (CR D bn h u k) := by
  refine ⟨fun a c q => ⟨CR_1024 hW q, CR_c18 hW q⟩, fun L f h1 h2 => ?_⟩
  rcases Nat.eq_zero_or_pos L with z | z
  · omega
  · obtain ⟨c, hc⟩ := h1 0 z
    refine few (j := hk D h u k) hW.1.1 (fun p hp => (hW.1.2.2.2.1 p hp).1) (CR_hk3 hW hc) (fun i hi => ?_) (fun i x hi hx => ?_) h2
    · obtain ⟨c', hc'⟩ := h1 i hi
      exact CR_lt hW hc'
    · obtain ⟨c', hc'⟩ := h1 i hi
      exact CR_kct hW hx hc'
/-- all that the dresser reads of the rest -/
def qDR (D : Nat → Nat → Nat) (M : gM) : Prop := qTW D M ∧ qLK D M ∧ qS8 (D 0 0) D M
theorem qDR_fr {D : Nat → Nat → Nat} {M M' : gM} (hW : qWF D) (h : qDR D M) (e : ∀ k j, (k < 43 ∨ 88 ≤ k ∧ k ≤ 110 ∧ k ≠ 95 ∧ k ≠ 94 ∨ k = 95 ∧ j = 21) → M' k j = M k j) : qDR D M' :=
  ⟨qTW_fr h.1 hW.1.1 hW.1.2.1 (fun k j q => e k j (by omega)), qLK_fr h.2.1 (fun k j q => e k j (by omega)), qS8_fr h.2.2 (fun k j q1 q2 => e k j (by omega))⟩
/-- what was put in: the first i looks, of the next one the first k sets -/
def gtQ (D : Nat → Nat → Nat) (bn s cnt : Nat) (st cd : Nat → Nat) (i k : Nat) : Nat → Nat → Prop := fun a c =>
  ∃ i' k', (i' < i ∨ i' = i ∧ k' < k) ∧ i' < D 0 9 ∧ k' < cnt ∧ lfB D bn i' s = true ∧ st k' &&& qmk D i' = 0 ∧ a = st k' ||| qmk D i' ∧ c = cd k' * 64 + i'
section EV
variable {F : Nat} {D : Nat → Nat → Nat} {M : gM}
theorem e1_more (hF : 4000 ≤ F) (hW : qWF D) {bn h s : Nat} (hQ : qDR D M) (hh : h < 12) (hs : s < D 0 1) (hD : D 9 s = h) (hI0 : hI (CR D bn h 0 s) M h) :
    ∃ M', f_X1_dressOneMore F (nI h) (nI s) (nI (andn (bsN (fhB D (D 9 s)) (D 0 0)) bn)) M = some M' ∧ hI (CR D bn h 0 (s + 1)) M' h ∧ (∀ k j, k ≠ 46 + h → k ≠ 60 + h → k ≠ 58 → k ≠ 72 → ¬ (k = 44 ∧ (j = h ∨ j = 12)) → M' k j = M k j) := by
  have h36 := hW.2.1.1
  obtain ⟨N1, c1, c2, c3⟩ := e8_copy (a := 46 + h) (b := 58) (c := 64) hF (by omega) (by omega) M
  obtain ⟨N2, c4, c5, c6⟩ := e8_copy (a := 60 + h) (b := 72) (c := 64) hF (by omega) (by omega) N1
  obtain ⟨cnt, st, cd, a1, a2, a3, a4, a5, a6⟩ := hI0
  have hst : ∀ k, k < cnt → st k < 1024 ∧ cd k < 262144 := fun k hk => (qB_CR hW bn h 0 s).1 _ _ (a5 k hk)
  have d44 : N2 44 h = nI cnt := by rw [c5 _ (by omega), c2 _ (by omega), a2]
  -- the start of the loop
  let M1 : gM := gst (gst N2 44 12 (nI cnt)) 44 h (nI 0)
  have f1 : ∀ k j, k ≠ 58 → k ≠ 72 → ¬ (k = 44 ∧ (j = h ∨ j = 12)) → M1 k j = M k j := fun k j n1 n2 n3 => by
    show gst (gst N2 44 12 (nI cnt)) 44 h (nI 0) k j = _
    rw [gst_v, if_neg (by omega), gst_v, if_neg (by omega), c5 _ n2, c2 _ n1]
  have g12 : M1 44 12 = nI cnt := by
    show gst (gst N2 44 12 (nI cnt)) 44 h (nI 0) 44 12 = _
    rw [gst_v, if_neg (by omega), gst_v, if_pos ⟨rfl, rfl⟩]
  have g58 : ∀ k, k < cnt → M1 58 k = nI (st k) ∧ M1 72 k = nI (cd k) := fun k hk => by
    refine ⟨?_, ?_⟩
    · show gst (gst N2 44 12 (nI cnt)) 44 h (nI 0) 58 k = _
      rw [gst_v, if_neg (by omega), gst_v, if_neg (by omega), c5 _ (by omega), c3 k (by omega), (a3 k hk).1]
    · show gst (gst N2 44 12 (nI cnt)) 44 h (nI 0) 72 k = _
      rw [gst_v, if_neg (by omega), gst_v, if_neg (by omega), c6 k (by omega), c2 _ (by omega), (a3 k hk).2]
  have g0 : hI (fun _ _ => False) M1 h := hI_0 (by
    show gst (gst N2 44 12 (nI cnt)) 44 h (nI 0) 44 h = _
    rw [gst_v, if_pos ⟨rfl, rfl⟩])
  have hsub : ∀ i k a c, gtQ D bn s cnt st cd i k a c → CR D bn h 0 (s + 1) a c := by
    rintro i k a c ⟨i', k', b1, b2, b3, b4, b5, b6, b7⟩
    refine (CR_yes (by rw [Nat.zero_add]; exact hD)).mpr ⟨i', st k', cd k', b2, by rw [Nat.zero_add]; exact b4, a5 k' b3, b5, b6, b7⟩
  have hqB := qB_CR hW bn h 0 (s + 1)
  have hbig : ∀ N : gM, (∀ k j, k ≠ 46 + h → k ≠ 60 + h → ¬ (k = 44 ∧ j = h) → N k j = M1 k j) → qDR D N := fun N hN => qDR_fr hW hQ (fun k j q => by
    rw [hN k j (by omega) (by omega) (by omega), f1 k j (by omega) (by omega) (by omega)])
  -- one look
  have inner : ∀ (i : Nat) (k66 : Int32 → gM → Option gM) (N : gM), i < D 0 9 → lfB D bn i s = true → hI (gtQ D bn s cnt st cd i 0) N h → (∀ k j, k ≠ 46 + h → k ≠ 60 + h → ¬ (k = 44 ∧ j = h) → N k j = M1 k j) →
      ∃ N', f_X1_dressOneMore_h106 F (nI h) (nI s) (nI (andn (bsN (fhB D (D 9 s)) (D 0 0)) bn)) k66 F (nI i) (nI (qmk D i)) (nI 0) N = k66 (nI (i + 1)) N' ∧ hI (gtQ D bn s cnt st cd (i + 1) 0) N' h ∧ (∀ k j, k ≠ 46 + h → k ≠ 60 + h → ¬ (k = 44 ∧ j = h) → N' k j = M1 k j) := by
    intro i k66 N hi hlf q1 q2
    have hm := qmk_1024 hW hi
    have r12 : rf 45 12 = 58 := rfl
    have r12' : rf 59 12 = 72 := rfl
    obtain ⟨N', ⟨b1, b2⟩, b3⟩ := up_inv (fun n k (N : gM) => f_X1_dressOneMore_h106 F (nI h) (nI s) (nI (andn (bsN (fhB D (D 9 s)) (D 0 0)) bn)) k66 n (nI i) (nI (qmk D i)) (nI k) N) cnt (fun k N => hI (gtQ D bn s cnt st cd i k) N h ∧ (∀ k j, k ≠ 46 + h → k ≠ 60 + h → ¬ (k = 44 ∧ j = h) → N k j = M1 k j)) (by
      rintro n k N hk ⟨u1, u2⟩
      have v1 : N 44 12 = nI cnt := by rw [u2 _ _ (by omega) (by omega) (by omega), g12]
      have v2 : N 58 k = nI (st k) := by rw [u2 _ _ (by omega) (by omega) (by omega), (g58 k hk).1]
      have v3 : N 72 k = nI (cd k) := by rw [u2 _ _ (by omega) (by omega) (by omega), (g58 k hk).2]
      obtain ⟨w1, w2⟩ := hst k hk
      have w3 : st k &&& qmk D i < 1024 := Nat.lt_of_le_of_lt Nat.and_le_left w1
      by_cases z : st k &&& qmk D i = 0
      · have hnew : ∀ x y, (gtQ D bn s cnt st cd i k x y ∨ x = st k ||| qmk D i ∧ y = cd k * 64 + i) → gtQ D bn s cnt st cd i (k + 1) x y := by
          rintro x y (⟨i', k', b1, b2⟩ | ⟨y1, y2⟩)
          · exact ⟨i', k', by omega, b2⟩
          · exact ⟨i, k, by omega, hi, hk, hlf, z, y1, y2⟩
        obtain ⟨N', t1, t2, t3⟩ := e1_addSet (a := st k ||| qmk D i) (c := cd k * 64 + i) hF (show h < 13 by omega) u1 (qB_sub hqB (fun x y q => hsub i (k + 1) x y (hnew x y q)))
        refine ⟨N', ⟨hI_of t2 hnew (fun x y q => ?_), fun k j n1 n2 n3 => by rw [t3 k j n1 n2 n3, u2 k j n1 n2 n3]⟩, ?_⟩
        · obtain ⟨i', k', y1, y2, y3, y4, y5, y6, y7⟩ := q
          refine ⟨y, Nat.le_refl _, ?_⟩
          by_cases zz : i' = i ∧ k' = k
          · obtain ⟨zz1, zz2⟩ := zz
            subst zz1; subst zz2
            exact .inr ⟨y6, y7⟩
          · exact .inl ⟨i', k', by omega, y2, y3, y4, y5, y6, y7⟩
        · show f_X1_dressOneMore_h106_b F _ _ _ _ _ _ _ _ _ = _
          unfold f_X1_dressOneMore_h106_b
          have e6 : nI (cd k) * nI 64 = nI (cd k * 64) := pk_mul _ _
          simp (disch := omega) only [pn_lt, pn_ltM, pl_ofN, ↓pl_m1, pl_lit, fa_litL, pn_bs, ck_n, ckh_n, ck_t, ckh_t, nI_add, nI_clamp, nI_ltI, nI_leI, nI_eq, m1_eq, m1_eq2, m1_lt, m1_le, m1_lt2, m1_le2, m1_m1, nI_m1, nI_subn, gb_n, Nat.add_zero, Nat.zero_add, Nat.zero_or, Nat.or_zero, nle_f, nle_t, nlt_f, nlt_t, neq_f, neq_t, Bool.false_eq_true, eq_self, if_true, if_false, ite_true, ite_false, and_true, true_and, and_false, false_and, decide_true, decide_false, Bool.and_true, Bool.true_and, Bool.and_false, Bool.false_and, Bool.or_false, Bool.false_or, Bool.or_true, Bool.true_or, Bool.not_true, Bool.not_false, not_true_eq_false, not_false_eq_true, v1, r12, r12', v2, v3, pl_and, pl_or, z, e6, t1]
      · refine ⟨N, ⟨hI_of u1 (fun x y q => ?_) (fun x y q => ?_), u2⟩, ?_⟩
        · obtain ⟨i', k', y1, y2⟩ := q
          exact ⟨i', k', by omega, y2⟩
        · obtain ⟨i', k', y1, y2, y3, y4, y5, y6, y7⟩ := q
          refine ⟨y, Nat.le_refl _, i', k', ?_, y2, y3, y4, y5, y6, y7⟩
          by_cases zz : i' = i ∧ k' = k
          · obtain ⟨zz1, zz2⟩ := zz
            subst zz1; subst zz2
            exact absurd y5 z
          · omega
        · show f_X1_dressOneMore_h106_b F _ _ _ _ _ _ _ _ _ = _
          unfold f_X1_dressOneMore_h106_b
          simp (disch := omega) only [pn_lt, pn_ltM, pl_ofN, ↓pl_m1, pl_lit, fa_litL, pn_bs, ck_n, ckh_n, ck_t, ckh_t, nI_add, nI_clamp, nI_ltI, nI_leI, nI_eq, m1_eq, m1_eq2, m1_lt, m1_le, m1_lt2, m1_le2, m1_m1, nI_m1, nI_subn, gb_n, Nat.add_zero, Nat.zero_add, Nat.zero_or, Nat.or_zero, nle_f, nle_t, nlt_f, nlt_t, neq_f, neq_t, Bool.false_eq_true, eq_self, if_true, if_false, ite_true, ite_false, and_true, true_and, and_false, false_and, decide_true, decide_false, Bool.and_true, Bool.true_and, Bool.and_false, Bool.false_and, Bool.or_false, Bool.false_or, Bool.or_true, Bool.true_or, Bool.not_true, Bool.not_false, not_true_eq_false, not_false_eq_true, v1, r12, r12', v2, pl_and, z]) cnt 0 N F (by omega) (by omega) ⟨q1, q2⟩
    refine ⟨N', b3.trans ?_, hI_of b1 (fun x y q => ?_) (fun x y q => ?_), b2⟩
    · obtain ⟨n', en⟩ : ∃ n', F - cnt = n' + 1 := ⟨F - cnt - 1, by omega⟩
      rw [en]
      show f_X1_dressOneMore_h106_b F _ _ _ _ _ _ _ _ _ = _
      unfold f_X1_dressOneMore_h106_b
      have v1 : N' 44 12 = nI cnt := by rw [b2 _ _ (by omega) (by omega) (by omega), g12]
      simp (disch := omega) only [pn_lt, pn_ltM, pl_ofN, ↓pl_m1, pl_lit, fa_litL, pn_bs, ck_n, ckh_n, ck_t, ckh_t, nI_add, nI_clamp, nI_ltI, nI_leI, nI_eq, m1_eq, m1_eq2, m1_lt, m1_le, m1_lt2, m1_le2, m1_m1, nI_m1, nI_subn, gb_n, Nat.add_zero, Nat.zero_add, Nat.zero_or, Nat.or_zero, nle_f, nle_t, nlt_f, nlt_t, neq_f, neq_t, Bool.false_eq_true, eq_self, if_true, if_false, ite_true, ite_false, and_true, true_and, and_false, false_and, decide_true, decide_false, Bool.and_true, Bool.true_and, Bool.and_false, Bool.false_and, Bool.or_false, Bool.false_or, Bool.or_true, Bool.true_or, Bool.not_true, Bool.not_false, not_true_eq_false, not_false_eq_true, v1]
    · obtain ⟨i', k', y1, y2⟩ := q
      exact ⟨i', k', by omega, y2⟩
    · obtain ⟨i', k', y1, y2, y3, y4⟩ := q
      exact ⟨y, Nat.le_refl _, i', k', by omega, y2, y3, y4⟩
  -- all looks
  obtain ⟨M', ⟨b1, b2⟩, b3⟩ := up_inv (fun n i (N : gM) => f_X1_dressOneMore_h66 F (nI h) (nI s) (nI (andn (bsN (fhB D (D 9 s)) (D 0 0)) bn)) n (nI i) N) (D 0 9) (fun i N => hI (gtQ D bn s cnt st cd i 0) N h ∧ (∀ k j, k ≠ 46 + h → k ≠ 60 + h → ¬ (k = 44 ∧ j = h) → N k j = M1 k j)) (by
    rintro n i N hi ⟨u1, u2⟩
    obtain ⟨qT, qL, qS⟩ := hbig N u2
    have e1 := e2_isFor8 (bn := bn) hW qT qL qS hi hs
    have e2 := e2_partsOf hW qL hi
    cases z : lfB D bn i s
    · refine ⟨N, ⟨hI_of u1 (fun x y q => ?_) (fun x y q => ?_), u2⟩, ?_⟩
      · obtain ⟨i', k', y1, y2⟩ := q
        exact ⟨i', k', by omega, y2⟩
      · obtain ⟨i', k', y1, y2, y3, y4, y5⟩ := q
        refine ⟨y, Nat.le_refl _, i', k', ?_, y2, y3, y4, y5⟩
        by_cases zz : i' = i
        · rw [zz, z] at y4
          exact absurd y4 (by decide)
        · omega
      · show f_X1_dressOneMore_h66_b F _ _ _ _ _ _ = _
        unfold f_X1_dressOneMore_h66_b
        simp (disch := omega) only [pn_lt, pn_ltM, pl_ofN, ↓pl_m1, pl_lit, fa_litL, pn_bs, ck_n, ckh_n, ck_t, ckh_t, nI_add, nI_clamp, nI_ltI, nI_leI, nI_eq, m1_eq, m1_eq2, m1_lt, m1_le, m1_lt2, m1_le2, m1_m1, nI_m1, nI_subn, gb_n, Nat.add_zero, Nat.zero_add, Nat.zero_or, Nat.or_zero, nle_f, nle_t, nlt_f, nlt_t, neq_f, neq_t, Bool.false_eq_true, eq_self, if_true, if_false, ite_true, ite_false, and_true, true_and, and_false, false_and, decide_true, decide_false, Bool.and_true, Bool.true_and, Bool.and_false, Bool.false_and, Bool.or_false, Bool.false_or, Bool.or_true, Bool.true_or, Bool.not_true, Bool.not_false, not_true_eq_false, not_false_eq_true, qL.1, e1, z]
    · obtain ⟨N', t1, t2, t3⟩ := inner i (f_X1_dressOneMore_h66 F (nI h) (nI s) (nI (andn (bsN (fhB D (D 9 s)) (D 0 0)) bn)) n) N hi z u1 u2
      refine ⟨N', ⟨t2, t3⟩, ?_⟩
      show f_X1_dressOneMore_h66_b F _ _ _ _ _ _ = _
      unfold f_X1_dressOneMore_h66_b
      simp (disch := omega) only [pn_lt, pn_ltM, pl_ofN, ↓pl_m1, pl_lit, fa_litL, pn_bs, ck_n, ckh_n, ck_t, ckh_t, nI_add, nI_clamp, nI_ltI, nI_leI, nI_eq, m1_eq, m1_eq2, m1_lt, m1_le, m1_lt2, m1_le2, m1_m1, nI_m1, nI_subn, gb_n, Nat.add_zero, Nat.zero_add, Nat.zero_or, Nat.or_zero, nle_f, nle_t, nlt_f, nlt_t, neq_f, neq_t, Bool.false_eq_true, eq_self, if_true, if_false, ite_true, ite_false, and_true, true_and, and_false, false_and, decide_true, decide_false, Bool.and_true, Bool.true_and, Bool.and_false, Bool.false_and, Bool.or_false, Bool.false_or, Bool.or_true, Bool.true_or, Bool.not_true, Bool.not_false, not_true_eq_false, not_false_eq_true, qL.1, e1, z, e2, t1]) (D 0 9) 0 M1 F (by omega) (by omega) ⟨hI_of g0 (fun _ _ q => q.elim) (fun x y q => by
      obtain ⟨i', k', y1, -⟩ := q
      omega), fun _ _ _ _ _ => rfl⟩
  refine ⟨M', ?_, hI_of b1 (fun a c q => hsub _ _ a c q) (fun a c q => ?_), fun k j n1 n2 n3 n4 n5 => ?_⟩
  · have r1 := rf45 h (by omega)
    have r2 := rf59 h (by omega)
    have r12 : rf 45 12 = 58 := rfl
    have r12' : rf 59 12 = 72 := rfl
    have hend : f_X1_dressOneMore_h66 F (nI h) (nI s) (nI (andn (bsN (fhB D (D 9 s)) (D 0 0)) bn)) F (nI 0) (gst (gst N2 44 12 (nI cnt)) 44 h (nI 0)) = some M' := by
      refine b3.trans ?_
      obtain ⟨n', en⟩ : ∃ n', F - D 0 9 = n' + 1 := ⟨F - D 0 9 - 1, by omega⟩
      rw [en]
      show f_X1_dressOneMore_h66_b F _ _ _ _ _ _ = _
      unfold f_X1_dressOneMore_h66_b
      have v1 := (hbig M' b2).2.1.1
      simp (disch := omega) only [pn_lt, pn_ltM, pl_ofN, ↓pl_m1, pl_lit, fa_litL, pn_bs, ck_n, ckh_n, ck_t, ckh_t, nI_add, nI_clamp, nI_ltI, nI_leI, nI_eq, m1_eq, m1_eq2, m1_lt, m1_le, m1_lt2, m1_le2, m1_m1, nI_m1, nI_subn, gb_n, Nat.add_zero, Nat.zero_add, Nat.zero_or, Nat.or_zero, nle_f, nle_t, nlt_f, nlt_t, neq_f, neq_t, Bool.false_eq_true, eq_self, if_true, if_false, ite_true, ite_false, and_true, true_and, and_false, false_and, decide_true, decide_false, Bool.and_true, Bool.true_and, Bool.and_false, Bool.false_and, Bool.or_false, Bool.false_or, Bool.or_true, Bool.true_or, Bool.not_true, Bool.not_false, not_true_eq_false, not_false_eq_true, v1]
    unfold f_X1_dressOneMore
    simp (disch := omega) only [pn_lt, pn_ltM, pl_ofN, ↓pl_m1, pl_lit, fa_litL, pn_bs, ck_n, ckh_n, ck_t, ckh_t, nI_add, nI_clamp, nI_ltI, nI_leI, nI_eq, m1_eq, m1_eq2, m1_lt, m1_le, m1_lt2, m1_le2, m1_m1, nI_m1, nI_subn, gb_n, Nat.add_zero, Nat.zero_add, Nat.zero_or, Nat.or_zero, nle_f, nle_t, nlt_f, nlt_t, neq_f, neq_t, Bool.false_eq_true, eq_self, if_true, if_false, ite_true, ite_false, and_true, true_and, and_false, false_and, decide_true, decide_false, Bool.and_true, Bool.true_and, Bool.and_false, Bool.false_and, Bool.or_false, Bool.false_or, Bool.or_true, Bool.true_or, Bool.not_true, Bool.not_false, not_true_eq_false, not_false_eq_true, r1, r2, r12, r12', c1, c4, d44, gst_v, hend]
  · obtain ⟨i, a', c', y1, y2, y3, y4, y5, y6⟩ := (CR_yes (by rw [Nat.zero_add]; exact hD)).mp q
    obtain ⟨k, t1, t2, t3⟩ := a6 a' c' y3
    rw [Nat.zero_add] at y2
    refine ⟨cd k * 64 + i, by omega, i, k, by omega, y1, t1, y2, by rw [t2]; exact y4, by rw [t2]; exact y5, rfl⟩
  · rw [b2 k j n1 n2 (by omega), f1 k j n3 n4 (by omega)]
theorem e1_gather (hF : 4000 ≤ F) (hW : qWF D) {bn : Nat} (hbn : bn < 1024) (hQ : qDR D M) :
    ∃ M', f_X1_gather F (nI bn) M = some M' ∧ (∀ h, h < 12 → hI (CR D bn h 0 (D 0 1)) M' h) ∧ (∀ k j, (k < 44 ∨ 72 < k) → M' k j = M k j) := by
  have hs8 := hW.1.2.1
  obtain ⟨N1, ⟨a1, a2⟩, a3⟩ := up_inv (fun n h (N : gM) => f_X1_gather_h2 F (nI bn) n (nI h) N) 12 (fun i N => (∀ h, h < i → hI (CR D bn h 0 0) N h) ∧ (∀ k j, (k < 44 ∨ 72 < k) → N k j = M k j)) (by
    rintro n i N hi ⟨u1, u2⟩
    obtain ⟨N', t1, t2, t3⟩ := e1_addSet (M := gst N 44 i (nI 0)) (Q := fun _ _ => False) (a := 0) (c := 0) hF (show i < 13 by omega) (hI_0 (by rw [gst_v, if_pos ⟨rfl, rfl⟩])) (qB_sub (qB_CR hW bn i 0 0) (fun x y q => by
      rcases q with q | q
      · exact q.elim
      · exact q))
    refine ⟨N', ⟨fun h hh => ?_, fun k j hk => ?_⟩, ?_⟩
    · by_cases e : h = i
      · subst e
        exact hI_of t2 (fun x y q => by
          rcases q with q | q
          · exact q.elim
          · exact q) (fun x y q => ⟨y, Nat.le_refl _, .inr q⟩)
      · refine hI_fr (u1 h (by omega)) ?_ ?_ ?_
        · rw [t3 _ _ (by omega) (by omega) (by omega), gst_v, if_neg (by omega)]
        · funext j
          rw [t3 _ _ (by omega) (by omega) (by omega), gst_v, if_neg (by omega)]
        · funext j
          rw [t3 _ _ (by omega) (by omega) (by omega), gst_v, if_neg (by omega)]
    · rw [t3 _ _ (by omega) (by omega) (by omega), gst_v, if_neg (by omega)]
      exact u2 k j hk
    · show f_X1_gather_h2_b F _ _ _ _ = _
      unfold f_X1_gather_h2_b
      simp (disch := omega) only [pn_lt, pn_ltM, pl_ofN, ↓pl_m1, pl_lit, fa_litL, pn_bs, ck_n, ckh_n, ck_t, ckh_t, nI_add, nI_clamp, nI_ltI, nI_leI, nI_eq, m1_eq, m1_eq2, m1_lt, m1_le, m1_lt2, m1_le2, m1_m1, nI_m1, nI_subn, gb_n, Nat.add_zero, Nat.zero_add, Nat.zero_or, Nat.or_zero, nle_f, nle_t, nlt_f, nlt_t, neq_f, neq_t, Bool.false_eq_true, eq_self, if_true, if_false, ite_true, ite_false, and_true, true_and, and_false, false_and, decide_true, decide_false, Bool.and_true, Bool.true_and, Bool.and_false, Bool.false_and, Bool.or_false, Bool.false_or, Bool.or_true, Bool.true_or, Bool.not_true, Bool.not_false, not_true_eq_false, not_false_eq_true, t1]) 12 0 M F (by omega) (by omega) ⟨fun h hh => absurd hh (Nat.not_lt_zero _), fun _ _ _ => rfl⟩
  have hbig : ∀ N : gM, (∀ k j, (k < 44 ∨ 72 < k) → N k j = M k j) → qDR D N := fun N hN => qDR_fr hW hQ (fun k j q => hN k j (by omega))
  obtain ⟨N2, ⟨b1, b2⟩, b3⟩ := up_inv (fun n s (N : gM) => f_X1_gather_h30 F (nI bn) n (nI s) N) (D 0 1) (fun s N => (∀ h, h < 12 → hI (CR D bn h 0 s) N h) ∧ (∀ k j, (k < 44 ∨ 72 < k) → N k j = M k j)) (by
    rintro n s N hs ⟨u1, u2⟩
    have hq := hbig N u2
    obtain ⟨qT, qL, qS⟩ := hq
    obtain ⟨c1, c2, c3⟩ := hW.1.2.2.2.2.1 s hs
    have e1 := e8_freeIn (h := D 9 s) hF hW qT c1
    have e2 := (qT.2.2.2.2.2.2 s hs).1
    obtain ⟨N', t1, t2, t3⟩ := e1_more (bn := bn) hF hW ⟨qT, qL, qS⟩ (show D 9 s < 12 by omega) hs rfl (u1 _ (by omega))
    refine ⟨N', ⟨fun h hh => ?_, fun k j hk => ?_⟩, ?_⟩
    · by_cases e : h = D 9 s
      · rw [e]; exact t2
      · refine hI_of (hI_fr (u1 h hh) ?_ ?_ ?_) (fun x y q => (CR_no (by rw [Nat.zero_add]; exact fun z => e z.symm)).mpr q) (fun x y q => ⟨y, Nat.le_refl _, (CR_no (by rw [Nat.zero_add]; exact fun z => e z.symm)).mp q⟩)
        · rw [t3 _ _ (by omega) (by omega) (by omega) (by omega) (by omega)]
        · funext j
          rw [t3 _ _ (by omega) (by omega) (by omega) (by omega) (by omega)]
        · funext j
          rw [t3 _ _ (by omega) (by omega) (by omega) (by omega) (by omega)]
    · rw [t3 _ _ (by omega) (by omega) (by omega) (by omega) (by omega)]
      exact u2 k j hk
    · show f_X1_gather_h30_b F _ _ _ _ = _
      unfold f_X1_gather_h30_b
      simp (disch := omega) only [pn_lt, pn_ltM, pl_ofN, ↓pl_m1, pl_lit, fa_litL, pn_bs, ck_n, ckh_n, ck_t, ckh_t, nI_add, nI_clamp, nI_ltI, nI_leI, nI_eq, m1_eq, m1_eq2, m1_lt, m1_le, m1_lt2, m1_le2, m1_m1, nI_m1, nI_subn, gb_n, Nat.add_zero, Nat.zero_add, Nat.zero_or, Nat.or_zero, nle_f, nle_t, nlt_f, nlt_t, neq_f, neq_t, Bool.false_eq_true, eq_self, if_true, if_false, ite_true, ite_false, and_true, true_and, and_false, false_and, decide_true, decide_false, Bool.and_true, Bool.true_and, Bool.and_false, Bool.false_and, Bool.or_false, Bool.false_or, Bool.or_true, Bool.true_or, Bool.not_true, Bool.not_false, not_true_eq_false, not_false_eq_true, qT.2.1, e2, e1, nI_andn', t1]) (D 0 1) 0 N1 F (by omega) (by omega) ⟨fun h hh => a1 h hh, a2⟩
  refine ⟨N2, ?_, b1, b2⟩
  unfold f_X1_gather
  refine a3.trans ?_
  obtain ⟨n', en⟩ : ∃ n', F - 12 = n' + 1 := ⟨F - 13, by omega⟩
  rw [en]
  show f_X1_gather_h2_b F _ _ _ _ = _
  unfold f_X1_gather_h2_b
  rw [if_pos (by rw [show (12 : Int32) = nI 12 from rfl, nI_leI (by omega) (by omega)]; omega)]
  refine b3.trans ?_
  obtain ⟨n2, en2⟩ : ∃ n2, F - D 0 1 = n2 + 1 := ⟨F - D 0 1 - 1, by omega⟩
  rw [en2]
  show f_X1_gather_h30_b F _ _ _ _ = _
  unfold f_X1_gather_h30_b
  have v1 := (hbig N2 b2).1.2.1
  simp (disch := omega) only [pn_lt, pn_ltM, pl_ofN, ↓pl_m1, pl_lit, fa_litL, pn_bs, ck_n, ckh_n, ck_t, ckh_t, nI_add, nI_clamp, nI_ltI, nI_leI, nI_eq, m1_eq, m1_eq2, m1_lt, m1_le, m1_lt2, m1_le2, m1_m1, nI_m1, nI_subn, gb_n, Nat.add_zero, Nat.zero_add, Nat.zero_or, Nat.or_zero, nle_f, nle_t, nlt_f, nlt_t, neq_f, neq_t, Bool.false_eq_true, eq_self, if_true, if_false, ite_true, ite_false, and_true, true_and, and_false, false_and, decide_true, decide_false, Bool.and_true, Bool.true_and, Bool.and_false, Bool.false_and, Bool.or_false, Bool.false_or, Bool.or_true, Bool.true_or, Bool.not_true, Bool.not_false, not_true_eq_false, not_false_eq_true, v1]
end EV
