/-! widths, told but for the clashes, wedding -/
/-- the numbers g i of the first i as a set -/
def wuS (g : Nat → Nat) : Nat → Nat
  | 0 => 0
  | i + 1 => wuS g i ||| 2 ^ g i
theorem wuS_lt {g : Nat → Nat} {c : Nat} : ∀ n, (∀ i, i < n → g i < c) → wuS g n < 2 ^ c
  | 0, _ => Nat.two_pow_pos c
  | n + 1, h => by
    show wuS g n ||| 2 ^ g n < 2 ^ c
    exact Nat.or_lt_two_pow (wuS_lt n (fun i hi => h i (by omega))) (Nat.pow_lt_pow_right (by omega) (h n (by omega)))
theorem wuS_cong {f g : Nat → Nat} : ∀ n, (∀ i, i < n → f i = g i) → wuS f n = wuS g n
  | 0, _ => rfl
  | n + 1, h => by
    show wuS f n ||| 2 ^ f n = wuS g n ||| 2 ^ g n
    rw [wuS_cong n (fun i hi => h i (by omega)), h n (by omega)]
theorem nI_wd {w v d : Nat} (h : d ≤ w) : nI w + (nI v - nI d) = nI (w - d + v) := by
  have e : nI w = nI (w - d) + nI d := by rw [nI_add]; congr 1; omega
  rw [e, Int32.add_assoc, Int32.add_comm (nI d), Int32.sub_add_cancel, nI_add]
section EV
variable {D : Nat → Nat → Nat} {M : gM}
/-- a row with another number at p -/
def rwS (f : Nat → Nat) (p v : Nat) : Nat → Nat := fun q => if q = p then v else f q
theorem w3_rw (hW : qWF D) {i : Nat} (hi : i < D 0 9) (f : Nat → Nat) (p v : Nat) : w3 D (rwS f p v) i = if (qmk D i).testBit p then w3 D f i - f p + v else w3 D f i := by
  obtain ⟨b1, b2, b3⟩ := lk_ne hW hi
  rw [qmk_bit]
  unfold w3 rwS
  by_cases e1 : D 17 i = p
  · rw [decide_eq_true e1, if_pos e1, if_neg (by omega), if_neg (by omega), e1]
    simp only [Bool.true_or, if_true]
    omega
  · by_cases e2 : D 18 i = p
    · rw [decide_eq_true e2, if_neg e1, if_pos e2, if_neg (by omega), e2]
      simp only [Bool.true_or, Bool.or_true, if_true]
      omega
    · by_cases e3 : D 19 i = p
      · rw [decide_eq_true e3, if_neg e1, if_neg e2, if_pos e3, e3]
        simp only [Bool.or_true, if_true]
        omega
      · rw [decide_eq_false e1, decide_eq_false e2, decide_eq_false e3, if_neg e1, if_neg e2, if_neg e3]
        rfl
theorem w3_in (hW : qWF D) {i p : Nat} (f : Nat → Nat) (h : (qmk D i).testBit p = true) : f p ≤ w3 D f i := by
  rw [qmk_bit, Bool.or_eq_true, Bool.or_eq_true, decide_eq_true_iff, decide_eq_true_iff, decide_eq_true_iff] at h
  unfold w3
  rcases h with (h | h) | h <;> rw [h] <;> omega
theorem e2_widthsIf {F p v : Nat} (hF : 4000 ≤ F) (hW : qWF D) (hT : qTW D M) (hL : qLK D M) (hS : qSV (D 0 0) D M 26 0) (hp : p < D 0 0) (hv : v ≤ 9) : f_X2_widthsIf F (nI p) (nI v) M = some (nI (wuS (w3 D (rwS (D 3) p v)) (D 0 9))) := by
  have hn := hW.1.1
  have h36 := hW.2.1.1
  obtain ⟨y, h1, h2⟩ := up_inv (fun n i (y : Int32) => f_X2_widthsIf_h5 F (nI p) (nI v) M n y (nI i)) (D 0 9) (fun i y => y = nI (wuS (w3 D (rwS (D 3) p v)) i)) (by
    intro n i y hi hy
    refine ⟨_, rfl, ?_⟩
    subst hy
    show f_X2_widthsIf_h5_b _ _ _ _ _ _ _ = _
    unfold f_X2_widthsIf_h5_b f_X2_widthsIf_b62 f_X2_widthOf f_X7_hasPart
    have e1 := e2_widthOf hW hL hS hi
    have e2 := e2_partsOf hW hL hi
    have hk := qmk_1024 hW hi
    have e3 := e8_has (a := qmk D i) (j := p) (by omega) (by omega) M
    have e4 : wuS (w3 D (rwS (D 3) p v)) (i + 1) = wuS (w3 D (rwS (D 3) p v)) i ||| 2 ^ w3 D (rwS (D 3) p v) i := rfl
    have hwd := wd_le hW hi
    have e5 : M 27 p = nI (D 3 p) := (hS.2.2.2.2.2.2.2.1 p hp).1
    rw [e4, w3_rw hW hi]
    cases h3 : (qmk D i).testBit p
    · simp (disch := omega) only [pn_lt, pn_ltM, pl_ofN, ↓pl_m1, pl_lit, fa_litL, pn_bs, ck_n, ckh_n, ck_t, ckh_t, nI_add, nI_clamp, nI_ltI, nI_leI, nI_eq, m1_eq, m1_eq2, m1_lt, m1_le, m1_lt2, m1_le2, m1_m1, nI_m1, nI_subn, gb_n, Nat.add_zero, Nat.zero_add, Nat.zero_or, Nat.or_zero, nle_f, nle_t, nlt_f, nlt_t, neq_f, neq_t, Bool.false_eq_true, eq_self, if_true, if_false, ite_true, ite_false, and_true, true_and, and_false, false_and, decide_true, decide_false, Bool.and_true, Bool.true_and, Bool.and_false, Bool.false_and, Bool.or_false, Bool.false_or, Bool.or_true, Bool.true_or, Bool.not_true, Bool.not_false, not_true_eq_false, not_false_eq_true, hL.1, hT.1, e1, e2, e3, h3, nI_shl', pl_or]
    · have h4 := w3_in hW (D 3) h3
      have h5 : w3 D (D 3) i - D 3 p + v < 31 := by
        have h6 := w3_le hW hi (c := 9) (f := rwS (D 3) p v) (fun q hq => by
          unfold rwS
          split
          · exact hv
          · exact (hW.2.2.2.2.2.2.1 q hq).1)
        rw [w3_rw hW hi, h3, if_pos rfl] at h6
        omega
      simp (disch := omega) only [pn_lt, pn_ltM, pl_ofN, ↓pl_m1, pl_lit, fa_litL, pn_bs, ck_n, ckh_n, ck_t, ckh_t, nI_add, nI_clamp, nI_ltI, nI_leI, nI_eq, m1_eq, m1_eq2, m1_lt, m1_le, m1_lt2, m1_le2, m1_m1, nI_m1, nI_subn, gb_n, Nat.add_zero, Nat.zero_add, Nat.zero_or, Nat.or_zero, nle_f, nle_t, nlt_f, nlt_t, neq_f, neq_t, Bool.false_eq_true, eq_self, if_true, if_false, ite_true, ite_false, and_true, true_and, and_false, false_and, decide_true, decide_false, Bool.and_true, Bool.true_and, Bool.and_false, Bool.false_and, Bool.or_false, Bool.false_or, Bool.or_true, Bool.true_or, Bool.not_true, Bool.not_false, not_true_eq_false, not_false_eq_true, hL.1, hT.1, e1, e2, e3, h3, e5, nI_wd, nI_shl', pl_or]) (D 0 9) 0 (nI 0) F (by omega) (by omega) rfl
  unfold f_X2_widthsIf
  refine h2.trans ?_
  obtain ⟨n', e⟩ : ∃ n', F - D 0 9 = n' + 1 := ⟨F - D 0 9 - 1, by omega⟩
  rw [e]
  show f_X2_widthsIf_h5_b _ _ _ _ _ _ _ = _
  unfold f_X2_widthsIf_h5_b
  simp (disch := omega) only [pn_lt, pn_ltM, pl_ofN, ↓pl_m1, pl_lit, fa_litL, pn_bs, ck_n, ckh_n, ck_t, ckh_t, nI_add, nI_clamp, nI_ltI, nI_leI, nI_eq, m1_eq, m1_eq2, m1_lt, m1_le, m1_lt2, m1_le2, m1_m1, nI_m1, nI_subn, gb_n, Nat.add_zero, Nat.zero_add, Nat.zero_or, Nat.or_zero, nle_f, nle_t, nlt_f, nlt_t, neq_f, neq_t, Bool.false_eq_true, eq_self, if_true, if_false, ite_true, ite_false, and_true, true_and, and_false, false_and, decide_true, decide_false, Bool.and_true, Bool.true_and, Bool.and_false, Bool.false_and, Bool.or_false, Bool.false_or, Bool.or_true, Bool.true_or, Bool.not_true, Bool.not_false, not_true_eq_false, not_false_eq_true, h1, hL.1]
theorem e2_widths {F : Nat} (hF : 4000 ≤ F) (hW : qWF D) (hT : qTW D M) (hL : qLK D M) (hS : qSV (D 0 0) D M 26 0) : f_X2_widthsIf F m1 (nI 0) M = some (nI (wuS (w3 D (D 3)) (D 0 9))) := by
  have hn := hW.1.1
  have h36 := hW.2.1.1
  obtain ⟨y, h1, h2⟩ := up_inv (fun n i (y : Int32) => f_X2_widthsIf_h5 F m1 (nI 0) M n y (nI i)) (D 0 9) (fun i y => y = nI (wuS (w3 D (D 3)) i)) (by
    intro n i y hi hy
    refine ⟨_, rfl, ?_⟩
    subst hy
    show f_X2_widthsIf_h5_b _ _ _ _ _ _ _ = _
    unfold f_X2_widthsIf_h5_b f_X2_widthsIf_b62 f_X2_widthOf f_X7_hasPart
    have e1 := e2_widthOf hW hL hS hi
    have e4 : wuS (w3 D (D 3)) (i + 1) = wuS (w3 D (D 3)) i ||| 2 ^ w3 D (D 3) i := rfl
    have hwd := wd_le hW hi
    rw [e4]
    simp (disch := omega) only [pn_lt, pn_ltM, pl_ofN, ↓pl_m1, pl_lit, fa_litL, pn_bs, ck_n, ckh_n, ck_t, ckh_t, nI_add, nI_clamp, nI_ltI, nI_leI, nI_eq, m1_eq, m1_eq2, m1_lt, m1_le, m1_lt2, m1_le2, m1_m1, nI_m1, nI_subn, gb_n, Nat.add_zero, Nat.zero_add, Nat.zero_or, Nat.or_zero, nle_f, nle_t, nlt_f, nlt_t, neq_f, neq_t, Bool.false_eq_true, eq_self, if_true, if_false, ite_true, ite_false, and_true, true_and, and_false, false_and, decide_true, decide_false, Bool.and_true, Bool.true_and, Bool.and_false, Bool.false_and, Bool.or_false, Bool.false_or, Bool.or_true, Bool.true_or, Bool.not_true, Bool.not_false, not_true_eq_false, not_false_eq_true, hL.1, e1, nI_shl', pl_or]) (D 0 9) 0 (nI 0) F (by omega) (by omega) rfl
  unfold f_X2_widthsIf
  refine h2.trans ?_
  obtain ⟨n', e⟩ : ∃ n', F - D 0 9 = n' + 1 := ⟨F - D 0 9 - 1, by omega⟩
  rw [e]
  show f_X2_widthsIf_h5_b _ _ _ _ _ _ _ = _
  unfold f_X2_widthsIf_h5_b
  simp (disch := omega) only [pn_lt, pn_ltM, pl_ofN, ↓pl_m1, pl_lit, fa_litL, pn_bs, ck_n, ckh_n, ck_t, ckh_t, nI_add, nI_clamp, nI_ltI, nI_leI, nI_eq, m1_eq, m1_eq2, m1_lt, m1_le, m1_lt2, m1_le2, m1_m1, nI_m1, nI_subn, gb_n, Nat.add_zero, Nat.zero_add, Nat.zero_or, Nat.or_zero, nle_f, nle_t, nlt_f, nlt_t, neq_f, neq_t, Bool.false_eq_true, eq_self, if_true, if_false, ite_true, ite_false, and_true, true_and, and_false, false_and, decide_true, decide_false, Bool.and_true, Bool.true_and, Bool.and_false, Bool.false_and, Bool.or_false, Bool.false_or, Bool.or_true, Bool.true_or, Bool.not_true, Bool.not_false, not_true_eq_false, not_false_eq_true, h1, hL.1]
theorem e9_widthsIn {F x : Nat} {f : Nat → Nat} (hF : 4000 ≤ F) (hW : qWF D) (hT : qTW D M) (hL : qLK D M) (hx : x ≤ 150) (hf : ∀ p, p < D 0 0 → M 96 (x + p) = nI (f p)) (hfb : ∀ p, p < D 0 0 → f p ≤ 9) : f_X9_widthsIn F (nI x) M = some (nI (wuS (w3 D f) (D 0 9))) := by
  have hn := hW.1.1
  have h36 := hW.2.1.1
  obtain ⟨y, h1, h2⟩ := up_inv (fun n i (y : Int32) => f_X9_widthsIn_h4 F (nI x) M n y (nI i)) (D 0 9) (fun i y => y = nI (wuS (w3 D f) i)) (by
    intro n i y hi hy
    refine ⟨_, rfl, ?_⟩
    subst hy
    show f_X9_widthsIn_h4_b _ _ _ _ _ _ = _
    unfold f_X9_widthsIn_h4_b
    have hk := qmk_1024 hW hi
    have e1 := e9_sumOf hF hW hT hk hx hf
    rw [sS_qmk hW hi] at e1
    have e4 : wuS (w3 D f) (i + 1) = wuS (w3 D f) i ||| 2 ^ w3 D f i := rfl
    have hwd := w3_le hW hi hfb
    have e5 := (hL.2.2 i hi).2.2.2
    rw [e4]
    simp (disch := omega) only [pn_lt, pn_ltM, pl_ofN, ↓pl_m1, pl_lit, fa_litL, pn_bs, ck_n, ckh_n, ck_t, ckh_t, nI_add, nI_clamp, nI_ltI, nI_leI, nI_eq, m1_eq, m1_eq2, m1_lt, m1_le, m1_lt2, m1_le2, m1_m1, nI_m1, nI_subn, gb_n, Nat.add_zero, Nat.zero_add, Nat.zero_or, Nat.or_zero, nle_f, nle_t, nlt_f, nlt_t, neq_f, neq_t, Bool.false_eq_true, eq_self, if_true, if_false, ite_true, ite_false, and_true, true_and, and_false, false_and, decide_true, decide_false, Bool.and_true, Bool.true_and, Bool.and_false, Bool.false_and, Bool.or_false, Bool.false_or, Bool.or_true, Bool.true_or, Bool.not_true, Bool.not_false, not_true_eq_false, not_false_eq_true, hL.2.1, e5, e1, nI_shl', pl_or]) (D 0 9) 0 (nI 0) F (by omega) (by omega) rfl
  unfold f_X9_widthsIn
  refine h2.trans ?_
  obtain ⟨n', e⟩ : ∃ n', F - D 0 9 = n' + 1 := ⟨F - D 0 9 - 1, by omega⟩
  rw [e]
  show f_X9_widthsIn_h4_b _ _ _ _ _ _ = _
  unfold f_X9_widthsIn_h4_b
  simp (disch := omega) only [pn_lt, pn_ltM, pl_ofN, ↓pl_m1, pl_lit, fa_litL, pn_bs, ck_n, ckh_n, ck_t, ckh_t, nI_add, nI_clamp, nI_ltI, nI_leI, nI_eq, m1_eq, m1_eq2, m1_lt, m1_le, m1_lt2, m1_le2, m1_m1, nI_m1, nI_subn, gb_n, Nat.add_zero, Nat.zero_add, Nat.zero_or, Nat.or_zero, nle_f, nle_t, nlt_f, nlt_t, neq_f, neq_t, Bool.false_eq_true, eq_self, if_true, if_false, ite_true, ite_false, and_true, true_and, and_false, false_and, decide_true, decide_false, Bool.and_true, Bool.true_and, Bool.and_false, Bool.false_and, Bool.or_false, Bool.false_or, Bool.or_true, Bool.true_or, Bool.not_true, Bool.not_false, not_true_eq_false, not_false_eq_true, h1, hL.2.1]
/-- one pair more at a wedding: the least price so far (1000000: none), its parts -/
def wdT (D : Nat → Nat → Nat) (h i j : Nat) (s : Nat × Nat) : Nat × Nat :=
  if (qmk D i &&& qmk D j = 0 ∧ w3 D (D 3) i = w3 D (D 3) j) ∧ frB D 0 h (qmk D i ||| qmk D j) (D 0 0) = true ∧ w3 D (D 4) i + w3 D (D 4) j < s.1 then (w3 D (D 4) i + w3 D (D 4) j, qmk D i ||| qmk D j) else s
def wdJ (D : Nat → Nat → Nat) (h i : Nat) (s : Nat × Nat) : Nat → Nat × Nat
  | 0 => s
  | m + 1 => wdT D h i (i + 1 + m) (wdJ D h i s m)
def wdI (D : Nat → Nat → Nat) (h : Nat) : Nat → Nat × Nat
  | 0 => (1000000, 0)
  | i + 1 => wdJ D h i (wdI D h i) (D 0 9 - (i + 1))
def wdOk (s : Nat × Nat) : Prop := s = (1000000, 0) ∨ s.1 ≤ 594 ∧ s.2 < 1024
theorem wdT_ok (hW : qWF D) {h i j : Nat} {s : Nat × Nat} (hi : i < D 0 9) (hj : j < D 0 9) (hs : wdOk s) : wdOk (wdT D h i j s) := by
  unfold wdT
  split
  · refine .inr ⟨?_, ?_⟩
    · have := pr_le hW hi
      have := pr_le hW hj
      show _ + _ ≤ 594
      omega
    · exact Nat.or_lt_two_pow (n := 10) (qmk_1024 hW hi) (qmk_1024 hW hj)
  · exact hs
theorem wdJ_ok (hW : qWF D) {h i : Nat} {s : Nat × Nat} (hi : i < D 0 9) (hs : wdOk s) : ∀ m, i + 1 + m ≤ D 0 9 → wdOk (wdJ D h i s m)
  | 0, _ => hs
  | m + 1, hm => wdT_ok hW hi (by omega) (wdJ_ok hW hi hs m (by omega))
theorem wdI_ok (hW : qWF D) (h : Nat) : ∀ i, i ≤ D 0 9 → wdOk (wdI D h i)
  | 0, _ => .inl rfl
  | i + 1, hi => wdJ_ok hW (by omega) (wdI_ok hW h i (by omega)) _ (by omega)
/-- the class's picture of the least price, of its parts -/
def wd8 (s : Nat × Nat) : Int32 := if s.1 = 1000000 then m1 else nI s.1
def wd8p (s : Nat × Nat) : Int32 := if s.1 = 1000000 then m1 else nI s.2
theorem sS_or {f : Nat → Nat} {a b n : Nat} (h : a &&& b = 0) : sS f (a ||| b) n = sS f a n + sS f b n := by
  unfold sS
  rw [← fb_sm_add]
  refine fb_sm_cong (fun k _ => ?_)
  have h1 := congrArg (fun x => x.testBit k) h
  simp only [Nat.testBit_and, Nat.zero_testBit] at h1
  rw [Nat.testBit_or]
  cases h2 : a.testBit k <;> cases h3 : b.testBit k <;> simp [h2, h3] at h1 ⊢
theorem e8_wedding {F h w : Nat} (hF : 4000 ≤ F) (hW : qWF D) (hT : qTW D M) (hL : qLK D M) (hS : qSV (D 0 0) D M 26 0) (hh : h ≤ 11) (hw : w ≤ 1) : f_X8_wedding F (nI h) (nI w) M = some (if w = 0 then wd8 (wdI D h (D 0 9)) else wd8p (wdI D h (D 0 9))) := by
  have hn := hW.1.1
  have h36 := hW.2.1.1
  have hfr := e8_freeIn hF hW hT hh
  obtain ⟨y, h1, h2⟩ := up_inv (fun n i (y : Int32 × Int32) => f_X8_wedding_h37 F (nI h) (nI w) M n y.1 y.2 (nI (bsN (fhB D h) (D 0 0))) (nI i)) (D 0 9) (fun i y => y = (wd8 (wdI D h i), wd8p (wdI D h i))) (by
    intro n i y hi hy
    refine ⟨_, rfl, ?_⟩
    subst hy
    show f_X8_wedding_h37_b F (nI h) (nI w) M _ _ _ _ _ = _
    unfold f_X8_wedding_h37_b
    have hok := wdI_ok hW h i (by omega)
    have hle : nI i + nI 1 = nI (i + 1) := nI_add i 1
    rw [hL.1, if_neg (by rw [nI_leI (by omega) (by omega)]; omega), pl_lt, show (1 : Int32) = nI 1 from rfl, hle]
    obtain ⟨z, h3, h4⟩ := up_inv (fun q m (z : Int32 × Int32) => f_X8_wedding_h55 F (nI h) (nI w) M (f_X8_wedding_h37 F (nI h) (nI w) M n) q z.1 z.2 (nI (bsN (fhB D h) (D 0 0))) (nI i) (nI (i + 1 + m))) (D 0 9 - (i + 1)) (fun m z => z = (wd8 (wdJ D h i (wdI D h i) m), wd8p (wdJ D h i (wdI D h i) m))) (by
      intro q m z hm hz
      refine ⟨_, rfl, ?_⟩
      subst hz
      have hok2 := wdJ_ok hW (h := h) hi hok m (by omega)
      have e0 : wdJ D h i (wdI D h i) (m + 1) = wdT D h i (i + 1 + m) (wdJ D h i (wdI D h i) m) := rfl
      rw [e0]
      have hst := wdJ_ok hW (h := h) hi hok m (by omega)
      generalize wdJ D h i (wdI D h i) m = st at *
      have hj : i + 1 + m < D 0 9 := by omega
      have ej : i + 1 + (m + 1) = i + 1 + m + 1 := rfl
      rw [ej]
      generalize i + 1 + m = j at *
      show f_X8_wedding_h55_b _ _ _ _ _ _ _ _ _ _ _ = _
      unfold f_X8_wedding_h55_b f_X2_mayMarry f_X8_wedding_b115 f_X2_widthOf f_X2_priceOf
      have p1 := e2_partsOf hW hL hi
      have p2 := e2_partsOf hW hL hj
      have q1 := e2_widthOf hW hL hS hi
      have q2 := e2_widthOf hW hL hS hj
      have r1 := e2_priceOf hW hL hS hi
      have r2 := e2_priceOf hW hL hS hj
      have k1 := qmk_1024 hW hi
      have k2 := qmk_1024 hW hj
      have d1 := wd_le hW hi
      have d2 := wd_le hW hj
      have c1 := pr_le hW hi
      have c2 := pr_le hW hj
      have ku : qmk D i ||| qmk D j < 2 ^ D 0 0 := Nat.or_lt_two_pow (qmk_lt hW hi) (qmk_lt hW hj)
      have ku2 : qmk D i ||| qmk D j < 1024 := Nat.or_lt_two_pow (n := 10) k1 k2
      have ki : qmk D i &&& qmk D j < 1024 := Nat.lt_of_le_of_lt Nat.and_le_left k1
      have hf := free_iff (D := D) (bn := 0) (h := h) ku
      rw [andn_0] at hf
      have kf : andn (qmk D i ||| qmk D j) (bsN (fhB D h) (D 0 0)) < 1024 := andn_1024 ku2
      unfold wdT
      by_cases a1 : frB D 0 h (qmk D i ||| qmk D j) (D 0 0) = true
      · have a1' := hf.mpr a1
        by_cases a2 : qmk D i &&& qmk D j = 0
        · by_cases a3 : w3 D (D 3) i = w3 D (D 3) j
          · by_cases a4 : w3 D (D 4) i + w3 D (D 4) j < st.1
            · rcases hok2 with a5 | a5
              · subst a5
                unfold wd8 wd8p
                simp (disch := omega) only [pn_lt, pn_ltM, pl_ofN, ↓pl_m1, pl_lit, fa_litL, pn_bs, ck_n, ckh_n, ck_t, ckh_t, nI_add, nI_clamp, nI_ltI, nI_leI, nI_eq, m1_eq, m1_eq2, m1_lt, m1_le, m1_lt2, m1_le2, m1_m1, nI_m1, nI_subn, gb_n, Nat.add_zero, Nat.zero_add, Nat.zero_or, Nat.or_zero, nle_f, nle_t, nlt_f, nlt_t, neq_f, neq_t, Bool.false_eq_true, eq_self, if_true, if_false, ite_true, ite_false, and_true, true_and, and_false, false_and, decide_true, decide_false, Bool.and_true, Bool.true_and, Bool.and_false, Bool.false_and, Bool.or_false, Bool.false_or, Bool.or_true, Bool.true_or, Bool.not_true, Bool.not_false, not_true_eq_false, not_false_eq_true, hL.1, p1, p2, q1, q2, r1, r2, pl_or, pl_and, nI_andn', a1', a1, a2, a3]
              · unfold wd8 wd8p
                simp (disch := omega) only [pn_lt, pn_ltM, pl_ofN, ↓pl_m1, pl_lit, fa_litL, pn_bs, ck_n, ckh_n, ck_t, ckh_t, nI_add, nI_clamp, nI_ltI, nI_leI, nI_eq, m1_eq, m1_eq2, m1_lt, m1_le, m1_lt2, m1_le2, m1_m1, nI_m1, nI_subn, gb_n, Nat.add_zero, Nat.zero_add, Nat.zero_or, Nat.or_zero, nle_f, nle_t, nlt_f, nlt_t, neq_f, neq_t, Bool.false_eq_true, eq_self, if_true, if_false, ite_true, ite_false, and_true, true_and, and_false, false_and, decide_true, decide_false, Bool.and_true, Bool.true_and, Bool.and_false, Bool.false_and, Bool.or_false, Bool.false_or, Bool.or_true, Bool.true_or, Bool.not_true, Bool.not_false, not_true_eq_false, not_false_eq_true, hL.1, p1, p2, q1, q2, r1, r2, pl_or, pl_and, nI_andn', a1', a1, a2, a3, a4]
            · rcases hok2 with a5 | a5
              · subst a5
                omega
              · unfold wd8 wd8p
                simp (disch := omega) only [pn_lt, pn_ltM, pl_ofN, ↓pl_m1, pl_lit, fa_litL, pn_bs, ck_n, ckh_n, ck_t, ckh_t, nI_add, nI_clamp, nI_ltI, nI_leI, nI_eq, m1_eq, m1_eq2, m1_lt, m1_le, m1_lt2, m1_le2, m1_m1, nI_m1, nI_subn, gb_n, Nat.add_zero, Nat.zero_add, Nat.zero_or, Nat.or_zero, nle_f, nle_t, nlt_f, nlt_t, neq_f, neq_t, Bool.false_eq_true, eq_self, if_true, if_false, ite_true, ite_false, and_true, true_and, and_false, false_and, decide_true, decide_false, Bool.and_true, Bool.true_and, Bool.and_false, Bool.false_and, Bool.or_false, Bool.false_or, Bool.or_true, Bool.true_or, Bool.not_true, Bool.not_false, not_true_eq_false, not_false_eq_true, hL.1, p1, p2, q1, q2, r1, r2, pl_or, pl_and, nI_andn', a1', a1, a2, a3, a4]
          · simp (disch := omega) only [pn_lt, pn_ltM, pl_ofN, ↓pl_m1, pl_lit, fa_litL, pn_bs, ck_n, ckh_n, ck_t, ckh_t, nI_add, nI_clamp, nI_ltI, nI_leI, nI_eq, m1_eq, m1_eq2, m1_lt, m1_le, m1_lt2, m1_le2, m1_m1, nI_m1, nI_subn, gb_n, Nat.add_zero, Nat.zero_add, Nat.zero_or, Nat.or_zero, nle_f, nle_t, nlt_f, nlt_t, neq_f, neq_t, Bool.false_eq_true, eq_self, if_true, if_false, ite_true, ite_false, and_true, true_and, and_false, false_and, decide_true, decide_false, Bool.and_true, Bool.true_and, Bool.and_false, Bool.false_and, Bool.or_false, Bool.false_or, Bool.or_true, Bool.true_or, Bool.not_true, Bool.not_false, not_true_eq_false, not_false_eq_true, hL.1, p1, p2, q1, q2, pl_or, pl_and, nI_andn', a1', a1, a2, a3]
        · simp (disch := omega) only [pn_lt, pn_ltM, pl_ofN, ↓pl_m1, pl_lit, fa_litL, pn_bs, ck_n, ckh_n, ck_t, ckh_t, nI_add, nI_clamp, nI_ltI, nI_leI, nI_eq, m1_eq, m1_eq2, m1_lt, m1_le, m1_lt2, m1_le2, m1_m1, nI_m1, nI_subn, gb_n, Nat.add_zero, Nat.zero_add, Nat.zero_or, Nat.or_zero, nle_f, nle_t, nlt_f, nlt_t, neq_f, neq_t, Bool.false_eq_true, eq_self, if_true, if_false, ite_true, ite_false, and_true, true_and, and_false, false_and, decide_true, decide_false, Bool.and_true, Bool.true_and, Bool.and_false, Bool.false_and, Bool.or_false, Bool.false_or, Bool.or_true, Bool.true_or, Bool.not_true, Bool.not_false, not_true_eq_false, not_false_eq_true, hL.1, p1, p2, pl_or, pl_and, nI_andn', a1', a1, a2]
      · have a1' := mt hf.mp a1
        simp (disch := omega) only [pn_lt, pn_ltM, pl_ofN, ↓pl_m1, pl_lit, fa_litL, pn_bs, ck_n, ckh_n, ck_t, ckh_t, nI_add, nI_clamp, nI_ltI, nI_leI, nI_eq, m1_eq, m1_eq2, m1_lt, m1_le, m1_lt2, m1_le2, m1_m1, nI_m1, nI_subn, gb_n, Nat.add_zero, Nat.zero_add, Nat.zero_or, Nat.or_zero, nle_f, nle_t, nlt_f, nlt_t, neq_f, neq_t, Bool.false_eq_true, eq_self, if_true, if_false, ite_true, ite_false, and_true, true_and, and_false, false_and, decide_true, decide_false, Bool.and_true, Bool.true_and, Bool.and_false, Bool.false_and, Bool.or_false, Bool.false_or, Bool.or_true, Bool.true_or, Bool.not_true, Bool.not_false, not_true_eq_false, not_false_eq_true, hL.1, p1, p2, pl_or, nI_andn', a1', a1]) (D 0 9 - (i + 1)) 0 (wd8 (wdI D h i), wd8p (wdI D h i)) F (by omega) (by omega) rfl
    refine h4.trans ?_
    obtain ⟨q, e⟩ : ∃ q, F - (D 0 9 - (i + 1)) = q + 1 := ⟨F - (D 0 9 - (i + 1)) - 1, by omega⟩
    rw [e, h3]
    show f_X8_wedding_h55_b _ _ _ _ _ _ _ _ _ _ _ = _
    unfold f_X8_wedding_h55_b
    have e0 : wdI D h (i + 1) = wdJ D h i (wdI D h i) (D 0 9 - (i + 1)) := rfl
    rw [e0]
    simp (disch := omega) only [pn_lt, pn_ltM, pl_ofN, ↓pl_m1, pl_lit, fa_litL, pn_bs, ck_n, ckh_n, ck_t, ckh_t, nI_add, nI_clamp, nI_ltI, nI_leI, nI_eq, m1_eq, m1_eq2, m1_lt, m1_le, m1_lt2, m1_le2, m1_m1, nI_m1, nI_subn, gb_n, Nat.add_zero, Nat.zero_add, Nat.zero_or, Nat.or_zero, nle_f, nle_t, nlt_f, nlt_t, neq_f, neq_t, Bool.false_eq_true, eq_self, if_true, if_false, ite_true, ite_false, and_true, true_and, and_false, false_and, decide_true, decide_false, Bool.and_true, Bool.true_and, Bool.and_false, Bool.false_and, Bool.or_false, Bool.false_or, Bool.or_true, Bool.true_or, Bool.not_true, Bool.not_false, not_true_eq_false, not_false_eq_true, hL.1]) (D 0 9) 0 (m1, m1) F (by omega) (by omega) (by unfold wdI wd8 wd8p; rfl)
  unfold f_X8_wedding
  have eh : f_X8_isHour (nI h) M = some (nI 1) := by
    unfold f_X8_isHour
    simp (disch := omega) only [pn_lt, pn_ltM, pl_ofN, ↓pl_m1, pl_lit, fa_litL, pn_bs, ck_n, ckh_n, ck_t, ckh_t, nI_add, nI_clamp, nI_ltI, nI_leI, nI_eq, m1_eq, m1_eq2, m1_lt, m1_le, m1_lt2, m1_le2, m1_m1, nI_m1, nI_subn, gb_n, Nat.add_zero, Nat.zero_add, Nat.zero_or, Nat.or_zero, nle_f, nle_t, nlt_f, nlt_t, neq_f, neq_t, Bool.false_eq_true, eq_self, if_true, if_false, ite_true, ite_false, and_true, true_and, and_false, false_and, decide_true, decide_false, Bool.and_true, Bool.true_and, Bool.and_false, Bool.false_and, Bool.or_false, Bool.false_or, Bool.or_true, Bool.true_or, Bool.not_true, Bool.not_false, not_true_eq_false, not_false_eq_true]
  rw [eh, Option.bind_some, if_neg (by decide), if_neg (nI_pos (by omega)), if_pos (by rw [show (1 : Int32) = nI 1 from rfl, nI_leI (by omega) (by omega)]; omega), hfr, Option.bind_some]
  refine h2.trans ?_
  obtain ⟨n', e⟩ : ∃ n', F - D 0 9 = n' + 1 := ⟨F - D 0 9 - 1, by omega⟩
  rw [e, h1]
  show f_X8_wedding_h37_b F (nI h) (nI w) M _ _ _ _ _ = _
  unfold f_X8_wedding_h37_b
  by_cases e1 : w = 0
  · subst e1
    simp (disch := omega) only [pn_lt, pn_ltM, pl_ofN, ↓pl_m1, pl_lit, fa_litL, pn_bs, ck_n, ckh_n, ck_t, ckh_t, nI_add, nI_clamp, nI_ltI, nI_leI, nI_eq, m1_eq, m1_eq2, m1_lt, m1_le, m1_lt2, m1_le2, m1_m1, nI_m1, nI_subn, gb_n, Nat.add_zero, Nat.zero_add, Nat.zero_or, Nat.or_zero, nle_f, nle_t, nlt_f, nlt_t, neq_f, neq_t, Bool.false_eq_true, eq_self, if_true, if_false, ite_true, ite_false, and_true, true_and, and_false, false_and, decide_true, decide_false, Bool.and_true, Bool.true_and, Bool.and_false, Bool.false_and, Bool.or_false, Bool.false_or, Bool.or_true, Bool.true_or, Bool.not_true, Bool.not_false, not_true_eq_false, not_false_eq_true, hL.1]
  · simp (disch := omega) only [pn_lt, pn_ltM, pl_ofN, ↓pl_m1, pl_lit, fa_litL, pn_bs, ck_n, ckh_n, ck_t, ckh_t, nI_add, nI_clamp, nI_ltI, nI_leI, nI_eq, m1_eq, m1_eq2, m1_lt, m1_le, m1_lt2, m1_le2, m1_m1, nI_m1, nI_subn, gb_n, Nat.add_zero, Nat.zero_add, Nat.zero_or, Nat.or_zero, nle_f, nle_t, nlt_f, nlt_t, neq_f, neq_t, Bool.false_eq_true, eq_self, if_true, if_false, ite_true, ite_false, and_true, true_and, and_false, false_and, decide_true, decide_false, Bool.and_true, Bool.true_and, Bool.and_false, Bool.false_and, Bool.or_false, Bool.false_or, Bool.or_true, Bool.true_or, Bool.not_true, Bool.not_false, not_true_eq_false, not_false_eq_true, hL.1]
/-- the model's picture of them -/
def wd9p (s : Nat × Nat) : Int32 := if s.1 = 1000000 then m1 else nI s.2
theorem e9_wedding {F h w : Nat} (hF : 4000 ≤ F) (hW : qWF D) (hT : qTW D M) (hL : qLK D M) (hS : qSV (D 0 0) D M 26 0) (hb : M 95 22 = 0) (hh : h ≤ 11) (hw : w ≤ 1) : f_X9_wedding F (nI h) (nI w) M = some (if w = 0 then wd8 (wdI D h (D 0 9)) else wd8p (wdI D h (D 0 9))) := by
  have hn := hW.1.1
  have h36 := hW.2.1.1
  obtain ⟨y, h1, h2⟩ := up_inv (fun n i (y : Int32 × Int32) => f_X9_wedding_h34 F (nI h) (nI w) M n y.1 y.2 (nI i)) (D 0 9) (fun i y => y = (wd8p (wdI D h i), nI (wdI D h i).1)) (by
    intro n i y hi hy
    refine ⟨_, rfl, ?_⟩
    subst hy
    show f_X9_wedding_h34_b F (nI h) (nI w) M _ _ _ _ = _
    unfold f_X9_wedding_h34_b
    have hok := wdI_ok hW h i (by omega)
    have hle : nI i + nI 1 = nI (i + 1) := nI_add i 1
    rw [hL.2.1, if_neg (by rw [nI_leI (by omega) (by omega)]; omega), pl_lt, show (1 : Int32) = nI 1 from rfl, hle]
    obtain ⟨z, h3, h4⟩ := up_inv (fun q m (z : Int32 × Int32) => f_X9_wedding_h49 F (nI h) (nI w) M (f_X9_wedding_h34 F (nI h) (nI w) M n) q z.1 z.2 (nI i) (nI (i + 1 + m))) (D 0 9 - (i + 1)) (fun m z => z = (wd8p (wdJ D h i (wdI D h i) m), nI (wdJ D h i (wdI D h i) m).1)) (by
      intro q m z hm hz
      refine ⟨_, rfl, ?_⟩
      subst hz
      have hok2 := wdJ_ok hW (h := h) hi hok m (by omega)
      have e0 : wdJ D h i (wdI D h i) (m + 1) = wdT D h i (i + 1 + m) (wdJ D h i (wdI D h i) m) := rfl
      rw [e0]
      generalize wdJ D h i (wdI D h i) m = st at *
      have hj : i + 1 + m < D 0 9 := by omega
      have ej : i + 1 + (m + 1) = i + 1 + m + 1 := rfl
      rw [ej]
      generalize i + 1 + m = j at *
      show f_X9_wedding_h49_b _ _ _ _ _ _ _ _ _ _ = _
      unfold f_X9_wedding_h49_b f_X9_wedding_b107 f_X9_wedding_b108
      have k1 := qmk_1024 hW hi
      have k2 := qmk_1024 hW hj
      have p1 := (hL.2.2 i hi).2.2.2
      have p2 := (hL.2.2 j hj).2.2.2
      have q1 := e9_widthOf hF hW hT hS k1
      have q2 := e9_widthOf hF hW hT hS k2
      rw [sS_qmk hW hi] at q1
      rw [sS_qmk hW hj] at q2
      have d1 := wd_le hW hi
      have d2 := wd_le hW hj
      have c1 := pr_le hW hi
      have c2 := pr_le hW hj
      have ku2 : qmk D i ||| qmk D j < 1024 := Nat.or_lt_two_pow (n := 10) k1 k2
      have ki : qmk D i &&& qmk D j < 1024 := Nat.lt_of_le_of_lt Nat.and_le_left k1
      have r1 := e9_priceOf hF hW hT hS ku2
      have hf := e9_isFree (bn := 0) (h := h) hF hW hT ku2 hh hb (by omega)
      have hs1 : st.1 ≤ 1000000 := by
        rcases hok2 with a5 | a5
        · rw [a5]; exact Nat.le_refl _
        · omega
      have sb : sS (D 4) (qmk D i ||| qmk D j) (D 0 0) ≤ 10 * 99 := Nat.le_trans (sS_le (c := 99) (fun p hp => (hW.2.2.2.2.2.2.1 p hp).2)) (Nat.mul_le_mul_right _ hn)
      unfold wdT
      by_cases a2 : qmk D i &&& qmk D j = 0
      · have sc : sS (D 4) (qmk D i ||| qmk D j) (D 0 0) = w3 D (D 4) i + w3 D (D 4) j := by rw [sS_or a2, sS_qmk hW hi, sS_qmk hW hj]
        by_cases a3 : w3 D (D 3) i = w3 D (D 3) j
        · by_cases a4 : w3 D (D 4) i + w3 D (D 4) j < st.1
          · cases a1 : frB D 0 h (qmk D i ||| qmk D j) (D 0 0)
            · simp (disch := omega) only [pn_lt, pn_ltM, pl_ofN, ↓pl_m1, pl_lit, fa_litL, pn_bs, ck_n, ckh_n, ck_t, ckh_t, nI_add, nI_clamp, nI_ltI, nI_leI, nI_eq, m1_eq, m1_eq2, m1_lt, m1_le, m1_lt2, m1_le2, m1_m1, nI_m1, nI_subn, gb_n, Nat.add_zero, Nat.zero_add, Nat.zero_or, Nat.or_zero, nle_f, nle_t, nlt_f, nlt_t, neq_f, neq_t, Bool.false_eq_true, eq_self, if_true, if_false, ite_true, ite_false, and_true, true_and, and_false, false_and, decide_true, decide_false, Bool.and_true, Bool.true_and, Bool.and_false, Bool.false_and, Bool.or_false, Bool.false_or, Bool.or_true, Bool.true_or, Bool.not_true, Bool.not_false, not_true_eq_false, not_false_eq_true, hL.2.1, p1, p2, q1, q2, r1, pl_or, pl_and, a1, a2, a3, a4, sc, hf]
            · unfold wd8p
              simp (disch := omega) only [pn_lt, pn_ltM, pl_ofN, ↓pl_m1, pl_lit, fa_litL, pn_bs, ck_n, ckh_n, ck_t, ckh_t, nI_add, nI_clamp, nI_ltI, nI_leI, nI_eq, m1_eq, m1_eq2, m1_lt, m1_le, m1_lt2, m1_le2, m1_m1, nI_m1, nI_subn, gb_n, Nat.add_zero, Nat.zero_add, Nat.zero_or, Nat.or_zero, nle_f, nle_t, nlt_f, nlt_t, neq_f, neq_t, Bool.false_eq_true, eq_self, if_true, if_false, ite_true, ite_false, and_true, true_and, and_false, false_and, decide_true, decide_false, Bool.and_true, Bool.true_and, Bool.and_false, Bool.false_and, Bool.or_false, Bool.false_or, Bool.or_true, Bool.true_or, Bool.not_true, Bool.not_false, not_true_eq_false, not_false_eq_true, hL.2.1, p1, p2, q1, q2, r1, pl_or, pl_and, a1, a2, a3, a4, sc, hf]
          · cases a1 : frB D 0 h (qmk D i ||| qmk D j) (D 0 0)
            · simp (disch := omega) only [pn_lt, pn_ltM, pl_ofN, ↓pl_m1, pl_lit, fa_litL, pn_bs, ck_n, ckh_n, ck_t, ckh_t, nI_add, nI_clamp, nI_ltI, nI_leI, nI_eq, m1_eq, m1_eq2, m1_lt, m1_le, m1_lt2, m1_le2, m1_m1, nI_m1, nI_subn, gb_n, Nat.add_zero, Nat.zero_add, Nat.zero_or, Nat.or_zero, nle_f, nle_t, nlt_f, nlt_t, neq_f, neq_t, Bool.false_eq_true, eq_self, if_true, if_false, ite_true, ite_false, and_true, true_and, and_false, false_and, decide_true, decide_false, Bool.and_true, Bool.true_and, Bool.and_false, Bool.false_and, Bool.or_false, Bool.false_or, Bool.or_true, Bool.true_or, Bool.not_true, Bool.not_false, not_true_eq_false, not_false_eq_true, hL.2.1, p1, p2, q1, q2, r1, pl_or, pl_and, a1, a2, a3, a4, sc, hf]
            · simp (disch := omega) only [pn_lt, pn_ltM, pl_ofN, ↓pl_m1, pl_lit, fa_litL, pn_bs, ck_n, ckh_n, ck_t, ckh_t, nI_add, nI_clamp, nI_ltI, nI_leI, nI_eq, m1_eq, m1_eq2, m1_lt, m1_le, m1_lt2, m1_le2, m1_m1, nI_m1, nI_subn, gb_n, Nat.add_zero, Nat.zero_add, Nat.zero_or, Nat.or_zero, nle_f, nle_t, nlt_f, nlt_t, neq_f, neq_t, Bool.false_eq_true, eq_self, if_true, if_false, ite_true, ite_false, and_true, true_and, and_false, false_and, decide_true, decide_false, Bool.and_true, Bool.true_and, Bool.and_false, Bool.false_and, Bool.or_false, Bool.false_or, Bool.or_true, Bool.true_or, Bool.not_true, Bool.not_false, not_true_eq_false, not_false_eq_true, hL.2.1, p1, p2, q1, q2, r1, pl_or, pl_and, a1, a2, a3, a4, sc, hf]
        · simp (disch := omega) only [pn_lt, pn_ltM, pl_ofN, ↓pl_m1, pl_lit, fa_litL, pn_bs, ck_n, ckh_n, ck_t, ckh_t, nI_add, nI_clamp, nI_ltI, nI_leI, nI_eq, m1_eq, m1_eq2, m1_lt, m1_le, m1_lt2, m1_le2, m1_m1, nI_m1, nI_subn, gb_n, Nat.add_zero, Nat.zero_add, Nat.zero_or, Nat.or_zero, nle_f, nle_t, nlt_f, nlt_t, neq_f, neq_t, Bool.false_eq_true, eq_self, if_true, if_false, ite_true, ite_false, and_true, true_and, and_false, false_and, decide_true, decide_false, Bool.and_true, Bool.true_and, Bool.and_false, Bool.false_and, Bool.or_false, Bool.false_or, Bool.or_true, Bool.true_or, Bool.not_true, Bool.not_false, not_true_eq_false, not_false_eq_true, hL.2.1, p1, p2, q1, q2, r1, pl_or, pl_and, a2, a3, sc, hf]
      · simp (disch := omega) only [pn_lt, pn_ltM, pl_ofN, ↓pl_m1, pl_lit, fa_litL, pn_bs, ck_n, ckh_n, ck_t, ckh_t, nI_add, nI_clamp, nI_ltI, nI_leI, nI_eq, m1_eq, m1_eq2, m1_lt, m1_le, m1_lt2, m1_le2, m1_m1, nI_m1, nI_subn, gb_n, Nat.add_zero, Nat.zero_add, Nat.zero_or, Nat.or_zero, nle_f, nle_t, nlt_f, nlt_t, neq_f, neq_t, Bool.false_eq_true, eq_self, if_true, if_false, ite_true, ite_false, and_true, true_and, and_false, false_and, decide_true, decide_false, Bool.and_true, Bool.true_and, Bool.and_false, Bool.false_and, Bool.or_false, Bool.false_or, Bool.or_true, Bool.true_or, Bool.not_true, Bool.not_false, not_true_eq_false, not_false_eq_true, hL.2.1, p1, p2, q1, q2, r1, pl_or, pl_and, a2, hf]) (D 0 9 - (i + 1)) 0 (wd8p (wdI D h i), nI (wdI D h i).1) F (by omega) (by omega) rfl
    refine h4.trans ?_
    obtain ⟨q, e⟩ : ∃ q, F - (D 0 9 - (i + 1)) = q + 1 := ⟨F - (D 0 9 - (i + 1)) - 1, by omega⟩
    rw [e, h3]
    show f_X9_wedding_h49_b _ _ _ _ _ _ _ _ _ _ = _
    unfold f_X9_wedding_h49_b
    have e0 : wdI D h (i + 1) = wdJ D h i (wdI D h i) (D 0 9 - (i + 1)) := rfl
    rw [e0]
    simp (disch := omega) only [pn_lt, pn_ltM, pl_ofN, ↓pl_m1, pl_lit, fa_litL, pn_bs, ck_n, ckh_n, ck_t, ckh_t, nI_add, nI_clamp, nI_ltI, nI_leI, nI_eq, m1_eq, m1_eq2, m1_lt, m1_le, m1_lt2, m1_le2, m1_m1, nI_m1, nI_subn, gb_n, Nat.add_zero, Nat.zero_add, Nat.zero_or, Nat.or_zero, nle_f, nle_t, nlt_f, nlt_t, neq_f, neq_t, Bool.false_eq_true, eq_self, if_true, if_false, ite_true, ite_false, and_true, true_and, and_false, false_and, decide_true, decide_false, Bool.and_true, Bool.true_and, Bool.and_false, Bool.false_and, Bool.or_false, Bool.false_or, Bool.or_true, Bool.true_or, Bool.not_true, Bool.not_false, not_true_eq_false, not_false_eq_true, hL.2.1]) (D 0 9) 0 (m1, nI 1000000) F (by omega) (by omega) (by unfold wdI wd8p; rfl)
  unfold f_X9_wedding
  have hok := wdI_ok hW h (D 0 9) (Nat.le_refl _)
  have e3 : f_X9_in (nI h).toInt64 (0 : Int64) (11 : Int64) M = some (nI 1) := by
    simp (disch := omega) only [pn_lt, pn_ltM, pl_ofN, ↓pl_m1, pl_lit, fa_litL, pn_bs, ck_n, ckh_n, ck_t, ckh_t, nI_add, nI_clamp, nI_ltI, nI_leI, nI_eq, m1_eq, m1_eq2, m1_lt, m1_le, m1_lt2, m1_le2, m1_m1, nI_m1, nI_subn, gb_n, Nat.add_zero, Nat.zero_add, Nat.zero_or, Nat.or_zero, nle_f, nle_t, nlt_f, nlt_t, neq_f, neq_t, Bool.false_eq_true, eq_self, if_true, if_false, ite_true, ite_false, and_true, true_and, and_false, false_and, decide_true, decide_false, Bool.and_true, Bool.true_and, Bool.and_false, Bool.false_and, Bool.or_false, Bool.false_or, Bool.or_true, Bool.true_or, Bool.not_true, Bool.not_false, not_true_eq_false, not_false_eq_true, e9_inL]
  have e4 : f_X9_in (nI w).toInt64 (0 : Int64) (1 : Int64) M = some (nI 1) := by
    simp (disch := omega) only [pn_lt, pn_ltM, pl_ofN, ↓pl_m1, pl_lit, fa_litL, pn_bs, ck_n, ckh_n, ck_t, ckh_t, nI_add, nI_clamp, nI_ltI, nI_leI, nI_eq, m1_eq, m1_eq2, m1_lt, m1_le, m1_lt2, m1_le2, m1_m1, nI_m1, nI_subn, gb_n, Nat.add_zero, Nat.zero_add, Nat.zero_or, Nat.or_zero, nle_f, nle_t, nlt_f, nlt_t, neq_f, neq_t, Bool.false_eq_true, eq_self, if_true, if_false, ite_true, ite_false, and_true, true_and, and_false, false_and, decide_true, decide_false, Bool.and_true, Bool.true_and, Bool.and_false, Bool.false_and, Bool.or_false, Bool.false_or, Bool.or_true, Bool.true_or, Bool.not_true, Bool.not_false, not_true_eq_false, not_false_eq_true, e9_inL]
  rw [e3, Option.bind_some, if_neg (by decide), e4, Option.bind_some, if_neg (by decide)]
  refine h2.trans ?_
  obtain ⟨n', e⟩ : ∃ n', F - D 0 9 = n' + 1 := ⟨F - D 0 9 - 1, by omega⟩
  rw [e, h1]
  show f_X9_wedding_h34_b F (nI h) (nI w) M _ _ _ _ = _
  unfold f_X9_wedding_h34_b
  generalize wdI D h (D 0 9) = st at *
  rcases hok with a5 | a5
  · subst a5
    unfold wd8 wd8p
    by_cases e1 : w = 0
    · simp (disch := omega) only [pn_lt, pn_ltM, pl_ofN, ↓pl_m1, pl_lit, fa_litL, pn_bs, ck_n, ckh_n, ck_t, ckh_t, nI_add, nI_clamp, nI_ltI, nI_leI, nI_eq, m1_eq, m1_eq2, m1_lt, m1_le, m1_lt2, m1_le2, m1_m1, nI_m1, nI_subn, gb_n, Nat.add_zero, Nat.zero_add, Nat.zero_or, Nat.or_zero, nle_f, nle_t, nlt_f, nlt_t, neq_f, neq_t, Bool.false_eq_true, eq_self, if_true, if_false, ite_true, ite_false, and_true, true_and, and_false, false_and, decide_true, decide_false, Bool.and_true, Bool.true_and, Bool.and_false, Bool.false_and, Bool.or_false, Bool.false_or, Bool.or_true, Bool.true_or, Bool.not_true, Bool.not_false, not_true_eq_false, not_false_eq_true, hL.2.1, e1]
    · simp (disch := omega) only [pn_lt, pn_ltM, pl_ofN, ↓pl_m1, pl_lit, fa_litL, pn_bs, ck_n, ckh_n, ck_t, ckh_t, nI_add, nI_clamp, nI_ltI, nI_leI, nI_eq, m1_eq, m1_eq2, m1_lt, m1_le, m1_lt2, m1_le2, m1_m1, nI_m1, nI_subn, gb_n, Nat.add_zero, Nat.zero_add, Nat.zero_or, Nat.or_zero, nle_f, nle_t, nlt_f, nlt_t, neq_f, neq_t, Bool.false_eq_true, eq_self, if_true, if_false, ite_true, ite_false, and_true, true_and, and_false, false_and, decide_true, decide_false, Bool.and_true, Bool.true_and, Bool.and_false, Bool.false_and, Bool.or_false, Bool.false_or, Bool.or_true, Bool.true_or, Bool.not_true, Bool.not_false, not_true_eq_false, not_false_eq_true, hL.2.1, e1]
  · unfold wd8 wd8p
    by_cases e1 : w = 0
    · simp (disch := omega) only [pn_lt, pn_ltM, pl_ofN, ↓pl_m1, pl_lit, fa_litL, pn_bs, ck_n, ckh_n, ck_t, ckh_t, nI_add, nI_clamp, nI_ltI, nI_leI, nI_eq, m1_eq, m1_eq2, m1_lt, m1_le, m1_lt2, m1_le2, m1_m1, nI_m1, nI_subn, gb_n, Nat.add_zero, Nat.zero_add, Nat.zero_or, Nat.or_zero, nle_f, nle_t, nlt_f, nlt_t, neq_f, neq_t, Bool.false_eq_true, eq_self, if_true, if_false, ite_true, ite_false, and_true, true_and, and_false, false_and, decide_true, decide_false, Bool.and_true, Bool.true_and, Bool.and_false, Bool.false_and, Bool.or_false, Bool.false_or, Bool.or_true, Bool.true_or, Bool.not_true, Bool.not_false, not_true_eq_false, not_false_eq_true, hL.2.1, e1]
    · simp (disch := omega) only [pn_lt, pn_ltM, pl_ofN, ↓pl_m1, pl_lit, fa_litL, pn_bs, ck_n, ckh_n, ck_t, ckh_t, nI_add, nI_clamp, nI_ltI, nI_leI, nI_eq, m1_eq, m1_eq2, m1_lt, m1_le, m1_lt2, m1_le2, m1_m1, nI_m1, nI_subn, gb_n, Nat.add_zero, Nat.zero_add, Nat.zero_or, Nat.or_zero, nle_f, nle_t, nlt_f, nlt_t, neq_f, neq_t, Bool.false_eq_true, eq_self, if_true, if_false, ite_true, ite_false, and_true, true_and, and_false, false_and, decide_true, decide_false, Bool.and_true, Bool.true_and, Bool.and_false, Bool.false_and, Bool.or_false, Bool.false_or, Bool.or_true, Bool.true_or, Bool.not_true, Bool.not_false, not_true_eq_false, not_false_eq_true, hL.2.1, e1]
theorem q_wedding {F : Nat} (hF : 4000 ≤ F) (a b : Int32) (h : qR M) : eqR (f_X8_wedding F a b M) (f_X9_wedding F a b M) := by
  obtain ⟨D, hW, hT, hS, hX, hL, hG, hB, hFI, hb⟩ := h
  rcases e8_isHour a M M with ⟨j, hj, rfl, e1⟩ | ⟨e0, e1⟩
  · rcases rg_le b 1 (by omega) with h0 | h0 | ⟨w, hw, rfl⟩
    · unfold f_X8_wedding f_X9_wedding
      exact ⟨-nI 1000000002, by simp (disch := omega) only [pn_lt, pn_ltM, pl_ofN, ↓pl_m1, pl_lit, fa_litL, pn_bs, ck_n, ckh_n, ck_t, ckh_t, nI_add, nI_clamp, nI_ltI, nI_leI, nI_eq, m1_eq, m1_eq2, m1_lt, m1_le, m1_lt2, m1_le2, m1_m1, nI_m1, nI_subn, gb_n, Nat.add_zero, Nat.zero_add, Nat.zero_or, Nat.or_zero, nle_f, nle_t, nlt_f, nlt_t, neq_f, neq_t, Bool.false_eq_true, eq_self, if_true, if_false, ite_true, ite_false, and_true, true_and, and_false, false_and, decide_true, decide_false, Bool.and_true, Bool.true_and, Bool.and_false, Bool.false_and, Bool.or_false, Bool.false_or, Bool.or_true, Bool.true_or, Bool.not_true, Bool.not_false, not_true_eq_false, not_false_eq_true, e1, i_lt h0], by simp (disch := omega) only [pn_lt, pn_ltM, pl_ofN, ↓pl_m1, pl_lit, fa_litL, pn_bs, ck_n, ckh_n, ck_t, ckh_t, nI_add, nI_clamp, nI_ltI, nI_leI, nI_eq, m1_eq, m1_eq2, m1_lt, m1_le, m1_lt2, m1_le2, m1_m1, nI_m1, nI_subn, gb_n, Nat.add_zero, Nat.zero_add, Nat.zero_or, Nat.or_zero, nle_f, nle_t, nlt_f, nlt_t, neq_f, neq_t, Bool.false_eq_true, eq_self, if_true, if_false, ite_true, ite_false, and_true, true_and, and_false, false_and, decide_true, decide_false, Bool.and_true, Bool.true_and, Bool.and_false, Bool.false_and, Bool.or_false, Bool.false_or, Bool.or_true, Bool.true_or, Bool.not_true, Bool.not_false, not_true_eq_false, not_false_eq_true, e9_inL, i_nle h0]⟩
    · unfold f_X8_wedding f_X9_wedding
      exact ⟨-nI 1000000002, by simp (disch := omega) only [pn_lt, pn_ltM, pl_ofN, ↓pl_m1, pl_lit, fa_litL, pn_bs, ck_n, ckh_n, ck_t, ckh_t, nI_add, nI_clamp, nI_ltI, nI_leI, nI_eq, m1_eq, m1_eq2, m1_lt, m1_le, m1_lt2, m1_le2, m1_m1, nI_m1, nI_subn, gb_n, Nat.add_zero, Nat.zero_add, Nat.zero_or, Nat.or_zero, nle_f, nle_t, nlt_f, nlt_t, neq_f, neq_t, Bool.false_eq_true, eq_self, if_true, if_false, ite_true, ite_false, and_true, true_and, and_false, false_and, decide_true, decide_false, Bool.and_true, Bool.true_and, Bool.and_false, Bool.false_and, Bool.or_false, Bool.false_or, Bool.or_true, Bool.true_or, Bool.not_true, Bool.not_false, not_true_eq_false, not_false_eq_true, e1, i_lt0 h0, i_nle h0], by simp (disch := omega) only [pn_lt, pn_ltM, pl_ofN, ↓pl_m1, pl_lit, fa_litL, pn_bs, ck_n, ckh_n, ck_t, ckh_t, nI_add, nI_clamp, nI_ltI, nI_leI, nI_eq, m1_eq, m1_eq2, m1_lt, m1_le, m1_lt2, m1_le2, m1_m1, nI_m1, nI_subn, gb_n, Nat.add_zero, Nat.zero_add, Nat.zero_or, Nat.or_zero, nle_f, nle_t, nlt_f, nlt_t, neq_f, neq_t, Bool.false_eq_true, eq_self, if_true, if_false, ite_true, ite_false, and_true, true_and, and_false, false_and, decide_true, decide_false, Bool.and_true, Bool.true_and, Bool.and_false, Bool.false_and, Bool.or_false, Bool.false_or, Bool.or_true, Bool.true_or, Bool.not_true, Bool.not_false, not_true_eq_false, not_false_eq_true, e9_inL, i_nle h0]⟩
    · exact ⟨_, e8_wedding hF hW hT hL hS hj hw, e9_wedding hF hW hT hL hS hb hj hw⟩
  · unfold f_X8_wedding f_X9_wedding
    exact ⟨-nI 1000000002, by simp (disch := omega) only [pn_lt, pn_ltM, pl_ofN, ↓pl_m1, pl_lit, fa_litL, pn_bs, ck_n, ckh_n, ck_t, ckh_t, nI_add, nI_clamp, nI_ltI, nI_leI, nI_eq, m1_eq, m1_eq2, m1_lt, m1_le, m1_lt2, m1_le2, m1_m1, nI_m1, nI_subn, gb_n, Nat.add_zero, Nat.zero_add, Nat.zero_or, Nat.or_zero, nle_f, nle_t, nlt_f, nlt_t, neq_f, neq_t, Bool.false_eq_true, eq_self, if_true, if_false, ite_true, ite_false, and_true, true_and, and_false, false_and, decide_true, decide_false, Bool.and_true, Bool.true_and, Bool.and_false, Bool.false_and, Bool.or_false, Bool.false_or, Bool.or_true, Bool.true_or, Bool.not_true, Bool.not_false, not_true_eq_false, not_false_eq_true, e1], by simp (disch := omega) only [pn_lt, pn_ltM, pl_ofN, ↓pl_m1, pl_lit, fa_litL, pn_bs, ck_n, ckh_n, ck_t, ckh_t, nI_add, nI_clamp, nI_ltI, nI_leI, nI_eq, m1_eq, m1_eq2, m1_lt, m1_le, m1_lt2, m1_le2, m1_m1, nI_m1, nI_subn, gb_n, Nat.add_zero, Nat.zero_add, Nat.zero_or, Nat.or_zero, nle_f, nle_t, nlt_f, nlt_t, neq_f, neq_t, Bool.false_eq_true, eq_self, if_true, if_false, ite_true, ite_false, and_true, true_and, and_false, false_and, decide_true, decide_false, Bool.and_true, Bool.true_and, Bool.and_false, Bool.false_and, Bool.or_false, Bool.false_or, Bool.or_true, Bool.true_or, Bool.not_true, Bool.not_false, not_true_eq_false, not_false_eq_true, e9_inL, eq_false e0]⟩
end EV
