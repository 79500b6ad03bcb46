/-! grow -/
/-- how many widths with the width v of p -/
def grN (D : Nat → Nat → Nat) (p v : Nat) : Nat := fb_ct (fun k => (wuS (w3 D (rwS (D 3) p v)) (D 0 9)).testBit k) 28
/-- best part, best width, one more than the most -/
def grT (D : Nat → Nat → Nat) (p v : Nat) (s : Nat × Nat × Nat) : Nat × Nat × Nat := if s.2.2 < grN D p v + 1 then (p, v, grN D p v + 1) else s
def grV (D : Nat → Nat → Nat) (p : Nat) (s : Nat × Nat × Nat) : Nat → Nat × Nat × Nat
  | 0 => s
  | v + 1 => grT D p v (grV D p s v)
def grP (D : Nat → Nat → Nat) (nv : Nat) : Nat → Nat × Nat × Nat
  | 0 => (0, 0, 0)
  | p + 1 => grV D p (grP D nv p) nv
theorem grP_s (D : Nat → Nat → Nat) (nv p : Nat) : grP D nv (p + 1) = grV D p (grP D nv p) nv := by rw [grP]
theorem grV_s (D : Nat → Nat → Nat) (p v : Nat) (s : Nat × Nat × Nat) : grV D p s (v + 1) = grT D p v (grV D p s v) := by rw [grV]
theorem grN_le (D : Nat → Nat → Nat) (p v : Nat) : grN D p v ≤ 28 := fb_ct_le _ 28
def grOk (s : Nat × Nat × Nat) : Prop := s.1 ≤ 10 ∧ s.2.1 ≤ 10 ∧ s.2.2 ≤ 29 ∧ (s.2.2 = 0 → s.2.1 = 0)
theorem grV_ok {D : Nat → Nat → Nat} {p : Nat} {s : Nat × Nat × Nat} (hp : p ≤ 10) (hs : grOk s) : ∀ v, v ≤ 10 → grOk (grV D p s v)
  | 0, _ => hs
  | v + 1, hv => by
    have ih := grV_ok (D := D) hp hs v (by omega)
    rw [grV_s]
    unfold grT
    split
    · refine ⟨hp, by show v ≤ 10; omega, ?_, ?_⟩
      · have := grN_le D p v
        show grN D p v + 1 ≤ 29
        omega
      · intro q
        exact absurd q (by show ¬ grN D p v + 1 = 0; omega)
    · exact ih
theorem grP_ok (D : Nat → Nat → Nat) {nv : Nat} (hnv : nv = 10) : ∀ p, p ≤ 10 → grOk (grP D nv p)
  | 0, _ => ⟨Nat.zero_le _, Nat.zero_le _, Nat.zero_le _, fun _ => rfl⟩
  | p + 1, hp => by
    rw [grP_s]
    exact grV_ok (by omega) (grP_ok D hnv p (by omega)) nv (by omega)
theorem dn_le {t m : Nat} (ht : t ≤ 1000) (hm : m ≤ 1000) : (nI m ≤ dn t) = (m + 1 ≤ t) := by
  cases t with
  | zero =>
    rw [dn_0]
    exact propext ⟨fun q => absurd ((m1_le2 (by omega)).mp q) id, fun q => by omega⟩
  | succ t =>
    rw [dn_s]
    exact propext ⟨fun q => by rw [nI_leI (by omega) (by omega)] at q; omega, fun q => by rw [nI_leI (by omega) (by omega)]; omega⟩
section EV
variable {D : Nat → Nat → Nat} {M : gM}
theorem gr_lt (hW : qWF D) {p v : Nat} (hv : v ≤ 9) : wuS (w3 D (rwS (D 3) p v)) (D 0 9) < 2 ^ 28 := wuS_lt _ (fun i hi => by
  have := w3_le hW hi (c := 9) (f := rwS (D 3) p v) (fun q hq => by
    unfold rwS
    split
    · exact hv
    · exact (hW.2.2.2.2.2.2.1 q hq).1)
  omega)
theorem e_gr8 (hW : qWF D) {p v : Nat} (hv : v ≤ 9) (N : gM) : f_J6_bitCount_0f7a4 (nI (wuS (w3 D (rwS (D 3) p v)) (D 0 9))) N = some (nI (grN D p v)) := by
  unfold grN
  exact e_bitCount (gr_lt hW hv) N
theorem e_gr9 {F : Nat} (hF : 4000 ≤ F) (hW : qWF D) {p v : Nat} (hv : v ≤ 9) (N : gM) : f_X9_ones F (nI (wuS (w3 D (rwS (D 3) p v)) (D 0 9))) N = some (nI (grN D p v)) := by
  unfold grN
  exact e9_ones hF (Nat.lt_trans (gr_lt hW hv) (by omega)) N
def gr8 (s : Nat × Nat × Nat) (x : Nat) : Int32 := if s.2.2 = 0 then m1 else nI x
theorem e8_grow {F w nv : Nat} (hnv : nv = 10) (hF : 4000 ≤ F) (hW : qWF D) (hT : qTW D M) (hL : qLK D M) (hS : qSV (D 0 0) D M 26 0) (hw : w ≤ 2) : f_X8_grow F (nI w) M = some (if w = 0 then gr8 (grP D nv (D 0 0)) (grP D nv (D 0 0)).1 else if w = 1 then gr8 (grP D nv (D 0 0)) (grP D nv (D 0 0)).2.1 else dn (grP D nv (D 0 0)).2.2) := by
  have hn := hW.1.1
  obtain ⟨y, h1, h2⟩ := up_inv (fun n p (y : Nat × Nat × Nat) => f_X8_grow_h22 F (nI w) M n (gr8 y y.1) (gr8 y y.2.1) (dn y.2.2) (nI p)) (D 0 0) (fun p y => y = grP D nv p) (by
    intro n p y hp hy
    refine ⟨_, rfl, ?_⟩
    subst hy
    have hok := grP_ok D hnv p (by omega)
    show f_X8_grow_h22_b F (nI w) M _ _ _ _ _ = _
    unfold f_X8_grow_h22_b
    rw [hT.1, if_neg (by rw [nI_leI (by omega) (by omega)]; omega)]
    obtain ⟨z, h3, h4⟩ := up_inv (fun q v (y : Nat × Nat × Nat) => f_X8_grow_h37 F (nI w) M (f_X8_grow_h22 F (nI w) M n) q (gr8 y y.1) (gr8 y y.2.1) (dn y.2.2) (nI p) (nI v)) nv (fun v y => y = grV D p (grP D nv p) v) (by
      intro q v y hv hy
      refine ⟨_, rfl, ?_⟩
      subst hy
      have hok2 := grV_ok (D := D) (p := p) (by omega) hok v (by omega)
      have e0 := grV_s D p v (grP D nv p)
      rw [e0]
      generalize grV D p (grP D nv p) v = st at *
      obtain ⟨k1, k2, k3, k4⟩ := hok2
      show f_X8_grow_h37_b F (nI w) M _ _ _ _ _ _ _ = _
      unfold f_X8_grow_h37_b
      have e1 := e2_widthsIf hF hW hT hL hS hp (v := v) (by omega)
      have e2 := e_gr8 hW (p := p) (v := v) (by omega) M
      have e3 := grN_le D p v
      have e4 := dn_le (t := st.2.2) (m := grN D p v) (by omega) (by omega)
      unfold grT
      generalize grN D p v = g at *
      by_cases c : st.2.2 < g + 1
      · have c2 : gr8 (p, v, g + 1) p = nI p := by unfold gr8; rw [if_neg (by show ¬ g + 1 = 0; omega)]
        have c3 : gr8 (p, v, g + 1) v = nI v := by unfold gr8; rw [if_neg (by show ¬ g + 1 = 0; omega)]
        simp (disch := omega) only [pn_lt, pn_ltM, pl_ofN, ↓pl_m1, pl_lit, fa_litL, pn_bs, ck_n, ckh_n, ck_t, ckh_t, nI_add, nI_clamp, nI_ltI, nI_leI, nI_eq, m1_eq, m1_eq2, m1_lt, m1_le, m1_lt2, m1_le2, m1_m1, nI_m1, nI_subn, gb_n, Nat.add_zero, Nat.zero_add, Nat.zero_or, Nat.or_zero, nle_f, nle_t, nlt_f, nlt_t, neq_f, neq_t, Bool.false_eq_true, eq_self, if_true, if_false, ite_true, ite_false, and_true, true_and, and_false, false_and, decide_true, decide_false, Bool.and_true, Bool.true_and, Bool.and_false, Bool.false_and, Bool.or_false, Bool.false_or, Bool.or_true, Bool.true_or, Bool.not_true, Bool.not_false, not_true_eq_false, not_false_eq_true, e1, e2, e4, c, c2, c3, dn_s]
      · simp (disch := omega) only [pn_lt, pn_ltM, pl_ofN, ↓pl_m1, pl_lit, fa_litL, pn_bs, ck_n, ckh_n, ck_t, ckh_t, nI_add, nI_clamp, nI_ltI, nI_leI, nI_eq, m1_eq, m1_eq2, m1_lt, m1_le, m1_lt2, m1_le2, m1_m1, nI_m1, nI_subn, gb_n, Nat.add_zero, Nat.zero_add, Nat.zero_or, Nat.or_zero, nle_f, nle_t, nlt_f, nlt_t, neq_f, neq_t, Bool.false_eq_true, eq_self, if_true, if_false, ite_true, ite_false, and_true, true_and, and_false, false_and, decide_true, decide_false, Bool.and_true, Bool.true_and, Bool.and_false, Bool.false_and, Bool.or_false, Bool.false_or, Bool.or_true, Bool.true_or, Bool.not_true, Bool.not_false, not_true_eq_false, not_false_eq_true, e1, e2, e4, c]) nv 0 (grP D nv p) F (by omega) (by omega) rfl
    refine h4.trans ?_
    obtain ⟨q, e⟩ : ∃ q, F - nv = q + 1 := ⟨F - nv - 1, by omega⟩
    rw [e, grP_s, ← h3]
    show f_X8_grow_h37_b F (nI w) M _ _ _ _ _ _ _ = _
    unfold f_X8_grow_h37_b
    simp (disch := omega) only [pn_lt, pn_ltM, pl_ofN, ↓pl_m1, pl_lit, fa_litL, pn_bs, ck_n, ckh_n, ck_t, ckh_t, nI_add, nI_clamp, nI_ltI, nI_leI, nI_eq, m1_eq, m1_eq2, m1_lt, m1_le, m1_lt2, m1_le2, m1_m1, nI_m1, nI_subn, gb_n, Nat.add_zero, Nat.zero_add, Nat.zero_or, Nat.or_zero, nle_f, nle_t, nlt_f, nlt_t, neq_f, neq_t, Bool.false_eq_true, eq_self, if_true, if_false, ite_true, ite_false, and_true, true_and, and_false, false_and, decide_true, decide_false, Bool.and_true, Bool.true_and, Bool.and_false, Bool.false_and, Bool.or_false, Bool.false_or, Bool.or_true, Bool.true_or, Bool.not_true, Bool.not_false, not_true_eq_false, not_false_eq_true]) (D 0 0) 0 (0, 0, 0) F (by omega) (by omega) rfl
  have e5 : gr8 ((0 : Nat), (0 : Nat), (0 : Nat)) 0 = (-1 : Int32) := by unfold gr8; rw [if_pos rfl]; rfl
  have e6 : dn 0 = (-1 : Int32) := dn_0
  dsimp only at h2
  rw [e5, e6] at h2
  unfold f_X8_grow
  rw [if_neg (nI_pos (by omega)), if_pos (by rw [show (2 : Int32) = nI 2 from rfl, nI_leI (by omega) (by omega)]; omega)]
  refine h2.trans ?_
  obtain ⟨n', e⟩ : ∃ n', F - D 0 0 = n' + 1 := ⟨F - D 0 0 - 1, by omega⟩
  rw [e, h1]
  show f_X8_grow_h22_b F (nI w) M _ _ _ _ _ = _
  unfold f_X8_grow_h22_b
  rcases (by omega : w = 0 ∨ w = 1 ∨ w = 2) with q | q | q <;> subst q
  · simp (disch := omega) only [pn_lt, pn_ltM, pl_ofN, ↓pl_m1, pl_lit, fa_litL, pn_bs, ck_n, ckh_n, ck_t, ckh_t, nI_add, nI_clamp, nI_ltI, nI_leI, nI_eq, m1_eq, m1_eq2, m1_lt, m1_le, m1_lt2, m1_le2, m1_m1, nI_m1, nI_subn, gb_n, Nat.add_zero, Nat.zero_add, Nat.zero_or, Nat.or_zero, nle_f, nle_t, nlt_f, nlt_t, neq_f, neq_t, Bool.false_eq_true, eq_self, if_true, if_false, ite_true, ite_false, and_true, true_and, and_false, false_and, decide_true, decide_false, Bool.and_true, Bool.true_and, Bool.and_false, Bool.false_and, Bool.or_false, Bool.false_or, Bool.or_true, Bool.true_or, Bool.not_true, Bool.not_false, not_true_eq_false, not_false_eq_true, hT.1]
  · simp (disch := omega) only [pn_lt, pn_ltM, pl_ofN, ↓pl_m1, pl_lit, fa_litL, pn_bs, ck_n, ckh_n, ck_t, ckh_t, nI_add, nI_clamp, nI_ltI, nI_leI, nI_eq, m1_eq, m1_eq2, m1_lt, m1_le, m1_lt2, m1_le2, m1_m1, nI_m1, nI_subn, gb_n, Nat.add_zero, Nat.zero_add, Nat.zero_or, Nat.or_zero, nle_f, nle_t, nlt_f, nlt_t, neq_f, neq_t, Bool.false_eq_true, eq_self, if_true, if_false, ite_true, ite_false, and_true, true_and, and_false, false_and, decide_true, decide_false, Bool.and_true, Bool.true_and, Bool.and_false, Bool.false_and, Bool.or_false, Bool.false_or, Bool.or_true, Bool.true_or, Bool.not_true, Bool.not_false, not_true_eq_false, not_false_eq_true, hT.1]
  · simp (disch := omega) only [pn_lt, pn_ltM, pl_ofN, ↓pl_m1, pl_lit, fa_litL, pn_bs, ck_n, ckh_n, ck_t, ckh_t, nI_add, nI_clamp, nI_ltI, nI_leI, nI_eq, m1_eq, m1_eq2, m1_lt, m1_le, m1_lt2, m1_le2, m1_m1, nI_m1, nI_subn, gb_n, Nat.add_zero, Nat.zero_add, Nat.zero_or, Nat.or_zero, nle_f, nle_t, nlt_f, nlt_t, neq_f, neq_t, Bool.false_eq_true, eq_self, if_true, if_false, ite_true, ite_false, and_true, true_and, and_false, false_and, decide_true, decide_false, Bool.and_true, Bool.true_and, Bool.and_false, Bool.false_and, Bool.or_false, Bool.false_or, Bool.or_true, Bool.true_or, Bool.not_true, Bool.not_false, not_true_eq_false, not_false_eq_true, hT.1]
/-- the row to try on: as it is, but for p -/
def grI (D : Nat → Nat → Nat) (M N : gM) (p v : Nat) : Prop := (∀ k, k ≠ 96 → N k = M k) ∧ (∀ j, (j < 40 ∨ 80 ≤ j) → N 96 j = M 96 j) ∧ ∀ q, q < D 0 0 → N 96 (40 + q) = nI (rwS (D 3) p v q)
theorem e9_grow {F w nv : Nat} (hnv : nv = 10) (hF : 4000 ≤ F) (hW : qWF D) (hT : qTW D M) (hL : qLK D M) (hS : qSV (D 0 0) D M 26 0) (hw : w ≤ 2) : ∃ M', (∀ k, k ≠ 96 → M' k = M k) ∧ (∀ j, (j < 40 ∨ 80 ≤ j) → M' 96 j = M 96 j) ∧ f_X9_grow F (nI w) M = some (if w = 0 then gr8 (grP D nv (D 0 0)) (grP D nv (D 0 0)).1 else if w = 1 then gr8 (grP D nv (D 0 0)) (grP D nv (D 0 0)).2.1 else dn (grP D nv (D 0 0)).2.2, M') := by
  have hn := hW.1.1
  obtain ⟨M1, l1, l2, l3, l4⟩ := e9_copy (x := 0) (y := 40) hF (by omega) (by omega) (by omega) M
  obtain ⟨y, h1, h2⟩ := up_inv (fun n p (y : (Nat × Nat × Nat) × gM) => f_X9_grow_h32 F (nI w) n (gr8 y.1 y.1.1) (nI y.1.2.1) (dn y.1.2.2) (nI p) y.2) (D 0 0) (fun p y => y.1 = grP D nv p ∧ grI D M y.2 10 0) (by
    rintro n p ⟨st, N⟩ hp ⟨hst, i1, i2, i3⟩
    dsimp only at hst i1 i2 i3
    have hok := grP_ok D hnv p (by omega)
    rw [← hst] at hok
    have hwd : ∀ q, q < D 0 0 → N 96 q = nI (D 3 q) := fun q hq => by
      have := (hS.2.2.2.2.2.2.2.1 q hq).2.2.1
      rw [Nat.zero_add] at this
      rw [i2 q (by omega)]; exact this
    obtain ⟨z, ⟨h3, j1, j2, j3⟩, h4⟩ := up_inv (fun q v (y : (Nat × Nat × Nat) × gM) => f_X9_grow_h46 F (nI w) (f_X9_grow_h32 F (nI w) n) q (gr8 y.1 y.1.1) (nI y.1.2.1) (dn y.1.2.2) (nI p) (nI v) y.2) nv (fun v y => y.1 = grV D p st v ∧ (∀ k, k ≠ 96 → y.2 k = M k) ∧ (∀ j, (j < 40 ∨ 80 ≤ j) → y.2 96 j = M 96 j) ∧ ∀ q, q < D 0 0 → q ≠ p → y.2 96 (40 + q) = nI (D 3 q)) (by
      rintro q v ⟨s2, N2⟩ hv ⟨hs2, j1, j2, j3⟩
      dsimp only at hs2 j1 j2 j3
      have hok2 := grV_ok (D := D) (p := p) (by omega) hok v (by omega)
      rw [← hs2] at hok2
      have e0 : grV D p st (v + 1) = grT D p v s2 := by rw [hs2, grV_s]
      refine ⟨(grT D p v s2, gst N2 96 (40 + p) (nI v)), ⟨e0.symm, fun k hk => ?_, fun j hj => ?_, fun q hq hqp => ?_⟩, ?_⟩
      · show gst N2 96 (40 + p) (nI v) k = M k
        rw [gst_ne _ _ _ _ hk, j1 k hk]
      · show gst N2 96 (40 + p) (nI v) 96 j = M 96 j
        rw [gst_v, if_neg (by omega), j2 j hj]
      · show gst N2 96 (40 + p) (nI v) 96 (40 + q) = nI (D 3 q)
        rw [gst_v, if_neg (by omega), j3 q hq hqp]
      · show f_X9_grow_h46_b F (nI w) _ _ _ _ _ _ _ _ = _
        unfold f_X9_grow_h46_b
        obtain ⟨k1, k2, k3, k4⟩ := hok2
        have fr : ∀ k, k ≠ 96 → gst N2 96 (40 + p) (nI v) k = M k := fun k hk => by rw [gst_ne _ _ _ _ hk, j1 k hk]
        have hT2 : qTW D (gst N2 96 (40 + p) (nI v)) := qTW_fr hT hn hW.1.2.1 (fun k i q => by rw [fr k (by omega)])
        have hL2 : qLK D (gst N2 96 (40 + p) (nI v)) := qLK_fr hL (fun k i q => by rw [fr k (by omega)])
        have e1 := e9_widthsIn (x := 40) (f := rwS (D 3) p v) hF hW hT2 hL2 (by omega) (fun q hq => by
          unfold rwS
          by_cases c : q = p
          · rw [if_pos c, gst_v, if_pos ⟨rfl, by omega⟩]
          · rw [if_neg c, gst_v, if_neg (by omega), j3 q hq c]) (fun q hq => by
          unfold rwS
          split
          · omega
          · exact (hW.2.2.2.2.2.2.1 q hq).1)
        have e2 := e_gr9 hF hW (p := p) (v := v) (by omega) (gst N2 96 (40 + p) (nI v))
        have e3 := grN_le D p v
        have e4 := dn_le (t := s2.2.2) (m := grN D p v) (by omega) (by omega)
        unfold grT
        generalize grN D p v = g at *
        by_cases c : s2.2.2 < g + 1
        · have c2 : gr8 (p, v, g + 1) p = nI p := by unfold gr8; rw [if_neg (by show ¬ g + 1 = 0; omega)]
          simp (disch := omega) only [pn_lt, pn_ltM, pl_ofN, ↓pl_m1, pl_lit, fa_litL, pn_bs, ck_n, ckh_n, ck_t, ckh_t, nI_add, nI_clamp, nI_ltI, nI_leI, nI_eq, m1_eq, m1_eq2, m1_lt, m1_le, m1_lt2, m1_le2, m1_m1, nI_m1, nI_subn, gb_n, Nat.add_zero, Nat.zero_add, Nat.zero_or, Nat.or_zero, nle_f, nle_t, nlt_f, nlt_t, neq_f, neq_t, Bool.false_eq_true, eq_self, if_true, if_false, ite_true, ite_false, and_true, true_and, and_false, false_and, decide_true, decide_false, Bool.and_true, Bool.true_and, Bool.and_false, Bool.false_and, Bool.or_false, Bool.false_or, Bool.or_true, Bool.true_or, Bool.not_true, Bool.not_false, not_true_eq_false, not_false_eq_true, e1, e2, e4, c, c2, dn_s]
        · simp (disch := omega) only [pn_lt, pn_ltM, pl_ofN, ↓pl_m1, pl_lit, fa_litL, pn_bs, ck_n, ckh_n, ck_t, ckh_t, nI_add, nI_clamp, nI_ltI, nI_leI, nI_eq, m1_eq, m1_eq2, m1_lt, m1_le, m1_lt2, m1_le2, m1_m1, nI_m1, nI_subn, gb_n, Nat.add_zero, Nat.zero_add, Nat.zero_or, Nat.or_zero, nle_f, nle_t, nlt_f, nlt_t, neq_f, neq_t, Bool.false_eq_true, eq_self, if_true, if_false, ite_true, ite_false, and_true, true_and, and_false, false_and, decide_true, decide_false, Bool.and_true, Bool.true_and, Bool.and_false, Bool.false_and, Bool.or_false, Bool.false_or, Bool.or_true, Bool.true_or, Bool.not_true, Bool.not_false, not_true_eq_false, not_false_eq_true, e1, e2, e4, c]) nv 0 (st, N) F (by omega) (by omega) ⟨rfl, i1, i2, fun q hq hqp => by
          have := i3 q hq
          unfold rwS at this
          rw [if_neg (by omega)] at this
          exact this⟩
    have hwd2 : z.2 96 p = nI (D 3 p) := by rw [j2 p (by omega), ← i2 p (by omega)]; exact hwd p hp
    refine ⟨(z.1, gst z.2 96 (40 + p) (nI (D 3 p))), ⟨?_, fun k hk => ?_, fun j hj => ?_, fun q hq => ?_⟩, ?_⟩
    · show z.1 = grP D nv (p + 1)
      rw [h3, hst, grP_s]
    · show gst z.2 96 (40 + p) (nI (D 3 p)) k = M k
      rw [gst_ne _ _ _ _ hk, j1 k hk]
    · show gst z.2 96 (40 + p) (nI (D 3 p)) 96 j = M 96 j
      rw [gst_v, if_neg (by omega), j2 j hj]
    · show gst z.2 96 (40 + p) (nI (D 3 p)) 96 (40 + q) = nI (rwS (D 3) 10 0 q)
      unfold rwS
      rw [if_neg (by omega)]
      by_cases c : q = p
      · rw [gst_v, if_pos ⟨rfl, by omega⟩, c]
      · rw [gst_v, if_neg (by omega), j3 q hq c]
    · show f_X9_grow_h32_b F (nI w) _ _ _ _ _ _ = _
      unfold f_X9_grow_h32_b
      have h108 : N 108 0 = nI (D 0 0) := by rw [i1 _ (by omega)]; exact hT.2.2.2.1
      have hx : f_X9_grow_h46 F (nI w) (f_X9_grow_h32 F (nI w) n) F (gr8 st st.1) (nI st.2.1) (dn st.2.2) (nI p) (nI 0) N = f_X9_grow_h32 F (nI w) n (gr8 z.1 z.1.1) (nI z.1.2.1) (dn z.1.2.2) (nI (p + 1)) (gst z.2 96 (40 + p) (nI (D 3 p))) := by
        refine h4.trans ?_
        obtain ⟨q, e⟩ : ∃ q, F - nv = q + 1 := ⟨F - nv - 1, by omega⟩
        rw [e]
        show f_X9_grow_h46_b F (nI w) _ _ _ _ _ _ _ _ = _
        unfold f_X9_grow_h46_b
        simp (disch := omega) only [pn_lt, pn_ltM, pl_ofN, ↓pl_m1, pl_lit, fa_litL, pn_bs, ck_n, ckh_n, ck_t, ckh_t, nI_add, nI_clamp, nI_ltI, nI_leI, nI_eq, m1_eq, m1_eq2, m1_lt, m1_le, m1_lt2, m1_le2, m1_m1, nI_m1, nI_subn, gb_n, Nat.add_zero, Nat.zero_add, Nat.zero_or, Nat.or_zero, nle_f, nle_t, nlt_f, nlt_t, neq_f, neq_t, Bool.false_eq_true, eq_self, if_true, if_false, ite_true, ite_false, and_true, true_and, and_false, false_and, decide_true, decide_false, Bool.and_true, Bool.true_and, Bool.and_false, Bool.false_and, Bool.or_false, Bool.false_or, Bool.or_true, Bool.true_or, Bool.not_true, Bool.not_false, not_true_eq_false, not_false_eq_true, hwd2]
      simp (disch := omega) only [pn_lt, pn_ltM, pl_ofN, ↓pl_m1, pl_lit, fa_litL, pn_bs, ck_n, ckh_n, ck_t, ckh_t, nI_add, nI_clamp, nI_ltI, nI_leI, nI_eq, m1_eq, m1_eq2, m1_lt, m1_le, m1_lt2, m1_le2, m1_m1, nI_m1, nI_subn, gb_n, Nat.add_zero, Nat.zero_add, Nat.zero_or, Nat.or_zero, nle_f, nle_t, nlt_f, nlt_t, neq_f, neq_t, Bool.false_eq_true, eq_self, if_true, if_false, ite_true, ite_false, and_true, true_and, and_false, false_and, decide_true, decide_false, Bool.and_true, Bool.true_and, Bool.and_false, Bool.false_and, Bool.or_false, Bool.false_or, Bool.or_true, Bool.true_or, Bool.not_true, Bool.not_false, not_true_eq_false, not_false_eq_true, h108, hx]) (D 0 0) 0 ((0, 0, 0), M1) F (by omega) (by omega) ⟨rfl, l2, fun j hj => l4 j (by omega), fun q hq => by
        have := (hS.2.2.2.2.2.2.2.1 q hq).2.2.1
        dsimp only
        rw [l3 q (by omega)]
        unfold rwS
        rw [if_neg (by omega)]
        exact this⟩
  obtain ⟨st, N⟩ := y
  obtain ⟨hst, i1, i2, i3⟩ := h1
  dsimp only at hst i1 i2 i3 h2
  refine ⟨N, i1, i2, ?_⟩
  unfold f_X9_grow
  have e3 : f_X9_in (nI w).toInt64 (0 : Int64) (2 : Int64) M = some (nI 1) := by
    simp (disch := omega) only [pn_lt, pn_ltM, pl_ofN, ↓pl_m1, pl_lit, fa_litL, pn_bs, ck_n, ckh_n, ck_t, ckh_t, nI_add, nI_clamp, nI_ltI, nI_leI, nI_eq, m1_eq, m1_eq2, m1_lt, m1_le, m1_lt2, m1_le2, m1_m1, nI_m1, nI_subn, gb_n, Nat.add_zero, Nat.zero_add, Nat.zero_or, Nat.or_zero, nle_f, nle_t, nlt_f, nlt_t, neq_f, neq_t, Bool.false_eq_true, eq_self, if_true, if_false, ite_true, ite_false, and_true, true_and, and_false, false_and, decide_true, decide_false, Bool.and_true, Bool.true_and, Bool.and_false, Bool.false_and, Bool.or_false, Bool.false_or, Bool.or_true, Bool.true_or, Bool.not_true, Bool.not_false, not_true_eq_false, not_false_eq_true, e9_inL]
  rw [e3, Option.bind_some, if_neg (by decide), show (0 : Int32) = nI 0 from rfl, show (40 : Int32) = nI 40 from rfl, l1, Option.bind_some]
  have e5 : gr8 ((0 : Nat), (0 : Nat), (0 : Nat)) 0 = (-1 : Int32) := by unfold gr8; rw [if_pos rfl]; rfl
  have e6 : dn 0 = (-1 : Int32) := dn_0
  rw [e5, e6] at h2
  refine h2.trans ?_
  obtain ⟨n', e⟩ : ∃ n', F - D 0 0 = n' + 1 := ⟨F - D 0 0 - 1, by omega⟩
  rw [e]
  show f_X9_grow_h32_b F (nI w) _ _ _ _ _ _ = _
  unfold f_X9_grow_h32_b
  have h108 : N 108 0 = nI (D 0 0) := by rw [i1 _ (by omega)]; exact hT.2.2.2.1
  have hok := grP_ok D hnv (D 0 0) hn
  rw [← hst] at hok ⊢
  obtain ⟨k1, k2, k3, k4⟩ := hok
  rcases Nat.eq_zero_or_pos st.2.2 with z0 | z0
  · have g1 : ∀ x, gr8 st x = m1 := fun x => by unfold gr8; rw [if_pos z0]
    rcases (by omega : w = 0 ∨ w = 1 ∨ w = 2) with q | q | q <;> subst q
    · simp (disch := omega) only [pn_lt, pn_ltM, pl_ofN, ↓pl_m1, pl_lit, fa_litL, pn_bs, ck_n, ckh_n, ck_t, ckh_t, nI_add, nI_clamp, nI_ltI, nI_leI, nI_eq, m1_eq, m1_eq2, m1_lt, m1_le, m1_lt2, m1_le2, m1_m1, nI_m1, nI_subn, gb_n, Nat.add_zero, Nat.zero_add, Nat.zero_or, Nat.or_zero, nle_f, nle_t, nlt_f, nlt_t, neq_f, neq_t, Bool.false_eq_true, eq_self, if_true, if_false, ite_true, ite_false, and_true, true_and, and_false, false_and, decide_true, decide_false, Bool.and_true, Bool.true_and, Bool.and_false, Bool.false_and, Bool.or_false, Bool.false_or, Bool.or_true, Bool.true_or, Bool.not_true, Bool.not_false, not_true_eq_false, not_false_eq_true, h108, g1]
    · simp (disch := omega) only [pn_lt, pn_ltM, pl_ofN, ↓pl_m1, pl_lit, fa_litL, pn_bs, ck_n, ckh_n, ck_t, ckh_t, nI_add, nI_clamp, nI_ltI, nI_leI, nI_eq, m1_eq, m1_eq2, m1_lt, m1_le, m1_lt2, m1_le2, m1_m1, nI_m1, nI_subn, gb_n, Nat.add_zero, Nat.zero_add, Nat.zero_or, Nat.or_zero, nle_f, nle_t, nlt_f, nlt_t, neq_f, neq_t, Bool.false_eq_true, eq_self, if_true, if_false, ite_true, ite_false, and_true, true_and, and_false, false_and, decide_true, decide_false, Bool.and_true, Bool.true_and, Bool.and_false, Bool.false_and, Bool.or_false, Bool.false_or, Bool.or_true, Bool.true_or, Bool.not_true, Bool.not_false, not_true_eq_false, not_false_eq_true, h108, g1]
    · simp (disch := omega) only [pn_lt, pn_ltM, pl_ofN, ↓pl_m1, pl_lit, fa_litL, pn_bs, ck_n, ckh_n, ck_t, ckh_t, nI_add, nI_clamp, nI_ltI, nI_leI, nI_eq, m1_eq, m1_eq2, m1_lt, m1_le, m1_lt2, m1_le2, m1_m1, nI_m1, nI_subn, gb_n, Nat.add_zero, Nat.zero_add, Nat.zero_or, Nat.or_zero, nle_f, nle_t, nlt_f, nlt_t, neq_f, neq_t, Bool.false_eq_true, eq_self, if_true, if_false, ite_true, ite_false, and_true, true_and, and_false, false_and, decide_true, decide_false, Bool.and_true, Bool.true_and, Bool.and_false, Bool.false_and, Bool.or_false, Bool.false_or, Bool.or_true, Bool.true_or, Bool.not_true, Bool.not_false, not_true_eq_false, not_false_eq_true, h108, g1, z0, dn_0]
  · have g1 : ∀ x, gr8 st x = nI x := fun x => by unfold gr8; rw [if_neg (by omega)]
    rcases (by omega : w = 0 ∨ w = 1 ∨ w = 2) with q | q | q <;> subst q
    · simp (disch := omega) only [pn_lt, pn_ltM, pl_ofN, ↓pl_m1, pl_lit, fa_litL, pn_bs, ck_n, ckh_n, ck_t, ckh_t, nI_add, nI_clamp, nI_ltI, nI_leI, nI_eq, m1_eq, m1_eq2, m1_lt, m1_le, m1_lt2, m1_le2, m1_m1, nI_m1, nI_subn, gb_n, Nat.add_zero, Nat.zero_add, Nat.zero_or, Nat.or_zero, nle_f, nle_t, nlt_f, nlt_t, neq_f, neq_t, Bool.false_eq_true, eq_self, if_true, if_false, ite_true, ite_false, and_true, true_and, and_false, false_and, decide_true, decide_false, Bool.and_true, Bool.true_and, Bool.and_false, Bool.false_and, Bool.or_false, Bool.false_or, Bool.or_true, Bool.true_or, Bool.not_true, Bool.not_false, not_true_eq_false, not_false_eq_true, h108, g1]
    · simp (disch := omega) only [pn_lt, pn_ltM, pl_ofN, ↓pl_m1, pl_lit, fa_litL, pn_bs, ck_n, ckh_n, ck_t, ckh_t, nI_add, nI_clamp, nI_ltI, nI_leI, nI_eq, m1_eq, m1_eq2, m1_lt, m1_le, m1_lt2, m1_le2, m1_m1, nI_m1, nI_subn, gb_n, Nat.add_zero, Nat.zero_add, Nat.zero_or, Nat.or_zero, nle_f, nle_t, nlt_f, nlt_t, neq_f, neq_t, Bool.false_eq_true, eq_self, if_true, if_false, ite_true, ite_false, and_true, true_and, and_false, false_and, decide_true, decide_false, Bool.and_true, Bool.true_and, Bool.and_false, Bool.false_and, Bool.or_false, Bool.false_or, Bool.or_true, Bool.true_or, Bool.not_true, Bool.not_false, not_true_eq_false, not_false_eq_true, h108, g1]
    · simp (disch := omega) only [pn_lt, pn_ltM, pl_ofN, ↓pl_m1, pl_lit, fa_litL, pn_bs, ck_n, ckh_n, ck_t, ckh_t, nI_add, nI_clamp, nI_ltI, nI_leI, nI_eq, m1_eq, m1_eq2, m1_lt, m1_le, m1_lt2, m1_le2, m1_m1, nI_m1, nI_subn, gb_n, Nat.add_zero, Nat.zero_add, Nat.zero_or, Nat.or_zero, nle_f, nle_t, nlt_f, nlt_t, neq_f, neq_t, Bool.false_eq_true, eq_self, if_true, if_false, ite_true, ite_false, and_true, true_and, and_false, false_and, decide_true, decide_false, Bool.and_true, Bool.true_and, Bool.and_false, Bool.false_and, Bool.or_false, Bool.false_or, Bool.or_true, Bool.true_or, Bool.not_true, Bool.not_false, not_true_eq_false, not_false_eq_true, h108, g1]
theorem q_grow {F : Nat} (hF : 4000 ≤ F) (a : Int32) (h : qR M) : ∃ r M2, f_X8_grow F a M = some r ∧ f_X9_grow F a M = some (r, M2) ∧ qR M2 := by
  obtain ⟨D, hW, hC⟩ := id h
  obtain ⟨hT, hS, hX, hL, hG, hB, hFI, hb⟩ := id hC
  rcases rg_le a 2 (by omega) with h0 | h0 | ⟨w, hw, rfl⟩
  · unfold f_X8_grow f_X9_grow
    exact ⟨-nI 1000000002, M, by simp (disch := omega) only [pn_lt, pn_ltM, pl_ofN, ↓pl_m1, pl_lit, fa_litL, pn_bs, ck_n, ckh_n, ck_t, ckh_t, nI_add, nI_clamp, nI_ltI, nI_leI, nI_eq, m1_eq, m1_eq2, m1_lt, m1_le, m1_lt2, m1_le2, m1_m1, nI_m1, nI_subn, gb_n, Nat.add_zero, Nat.zero_add, Nat.zero_or, Nat.or_zero, nle_f, nle_t, nlt_f, nlt_t, neq_f, neq_t, Bool.false_eq_true, eq_self, if_true, if_false, ite_true, ite_false, and_true, true_and, and_false, false_and, decide_true, decide_false, Bool.and_true, Bool.true_and, Bool.and_false, Bool.false_and, Bool.or_false, Bool.false_or, Bool.or_true, Bool.true_or, Bool.not_true, Bool.not_false, not_true_eq_false, not_false_eq_true, i_lt h0], by simp (disch := omega) only [pn_lt, pn_ltM, pl_ofN, ↓pl_m1, pl_lit, fa_litL, pn_bs, ck_n, ckh_n, ck_t, ckh_t, nI_add, nI_clamp, nI_ltI, nI_leI, nI_eq, m1_eq, m1_eq2, m1_lt, m1_le, m1_lt2, m1_le2, m1_m1, nI_m1, nI_subn, gb_n, Nat.add_zero, Nat.zero_add, Nat.zero_or, Nat.or_zero, nle_f, nle_t, nlt_f, nlt_t, neq_f, neq_t, Bool.false_eq_true, eq_self, if_true, if_false, ite_true, ite_false, and_true, true_and, and_false, false_and, decide_true, decide_false, Bool.and_true, Bool.true_and, Bool.and_false, Bool.false_and, Bool.or_false, Bool.false_or, Bool.or_true, Bool.true_or, Bool.not_true, Bool.not_false, not_true_eq_false, not_false_eq_true, e9_inL, i_nle h0], h⟩
  · unfold f_X8_grow f_X9_grow
    exact ⟨-nI 1000000002, M, by simp (disch := omega) only [pn_lt, pn_ltM, pl_ofN, ↓pl_m1, pl_lit, fa_litL, pn_bs, ck_n, ckh_n, ck_t, ckh_t, nI_add, nI_clamp, nI_ltI, nI_leI, nI_eq, m1_eq, m1_eq2, m1_lt, m1_le, m1_lt2, m1_le2, m1_m1, nI_m1, nI_subn, gb_n, Nat.add_zero, Nat.zero_add, Nat.zero_or, Nat.or_zero, nle_f, nle_t, nlt_f, nlt_t, neq_f, neq_t, Bool.false_eq_true, eq_self, if_true, if_false, ite_true, ite_false, and_true, true_and, and_false, false_and, decide_true, decide_false, Bool.and_true, Bool.true_and, Bool.and_false, Bool.false_and, Bool.or_false, Bool.false_or, Bool.or_true, Bool.true_or, Bool.not_true, Bool.not_false, not_true_eq_false, not_false_eq_true, i_lt0 h0, i_nle h0], by simp (disch := omega) only [pn_lt, pn_ltM, pl_ofN, ↓pl_m1, pl_lit, fa_litL, pn_bs, ck_n, ckh_n, ck_t, ckh_t, nI_add, nI_clamp, nI_ltI, nI_leI, nI_eq, m1_eq, m1_eq2, m1_lt, m1_le, m1_lt2, m1_le2, m1_m1, nI_m1, nI_subn, gb_n, Nat.add_zero, Nat.zero_add, Nat.zero_or, Nat.or_zero, nle_f, nle_t, nlt_f, nlt_t, neq_f, neq_t, Bool.false_eq_true, eq_self, if_true, if_false, ite_true, ite_false, and_true, true_and, and_false, false_and, decide_true, decide_false, Bool.and_true, Bool.true_and, Bool.and_false, Bool.false_and, Bool.or_false, Bool.false_or, Bool.or_true, Bool.true_or, Bool.not_true, Bool.not_false, not_true_eq_false, not_false_eq_true, e9_inL, i_nle h0], h⟩
  · obtain ⟨M', f1, f2, e⟩ := e9_grow (nv := 10) rfl hF hW hT hL hS hw
    refine ⟨_, M', e8_grow (nv := 10) rfl hF hW hT hL hS hw, e, qR_fr h (fun k i q => ?_)⟩
    by_cases c : k = 96
    · subst c
      exact f2 i (q.2.2.2.2.2.1 rfl)
    · rw [f1 k c]
end EV
