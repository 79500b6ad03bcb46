/-! sets that can be worn in an hour: with codes -/
/-- k scenes from the u-th on: the set a can be worn in the hour h, the looks told by the code c -/
def CR (D : Nat → Nat → Nat) (bn h u : Nat) : Nat → Nat → Nat → Prop
  | 0, a, c => a = 0 ∧ c = 0
  | k + 1, a, c => if D 9 (u + k) = h then ∃ i a' c', i < D 0 9 ∧ lfB D bn i (u + k) = true ∧ CR D bn h u k a' c' ∧ a' &&& qmk D i = 0 ∧ a = a' ||| qmk D i ∧ c = c' * 64 + i else CR D bn h u k a c
theorem CR_no {D : Nat → Nat → Nat} {bn h u k a c : Nat} (q : D 9 (u + k) ≠ h) : CR D bn h u (k + 1) a c ↔ CR D bn h u k a c := by
  show (if D 9 (u + k) = h then _ else _) ↔ _
  rw [if_neg q]
theorem CR_yes {D : Nat → Nat → Nat} {bn h u k a c : Nat} (q : D 9 (u + k) = h) : CR D bn h u (k + 1) a c ↔ ∃ i a' c', i < D 0 9 ∧ lfB D bn i (u + k) = true ∧ CR D bn h u k a' c' ∧ a' &&& qmk D i = 0 ∧ a = a' ||| qmk D i ∧ c = c' * 64 + i := by
  show (if D 9 (u + k) = h then _ else _) ↔ _
  rw [if_pos q]
/-- how many of these scenes are in the hour -/
def hk (D : Nat → Nat → Nat) (h u k : Nat) : Nat := fb_ct (fun p => decide (D 9 (u + p) = h)) k
theorem hk_s (D : Nat → Nat → Nat) (h u k : Nat) : hk D h u (k + 1) = hk D h u k + (if D 9 (u + k) = h then 1 else 0) := by
  unfold hk
  rw [fb_ct_succ]
  by_cases q : D 9 (u + k) = h
  · simp [q]
  · simp [q]
theorem CR_code {D : Nat → Nat → Nat} {bn h u : Nat} (h36 : D 0 9 ≤ 36) : ∀ {k a c : Nat}, CR D bn h u k a c → c < 64 ^ hk D h u k
  | 0, a, c, q => by
    rw [q.2]
    exact Nat.pow_pos (by omega)
  | k + 1, a, c, q => by
    rw [hk_s]
    by_cases e : D 9 (u + k) = h
    · obtain ⟨i, a', c', h1, h2, h3, h4, h5, h6⟩ := (CR_yes e).mp q
      have ih := CR_code h36 h3
      rw [if_pos e, Nat.pow_succ, h6]
      omega
    · rw [if_neg e]
      exact CR_code h36 ((CR_no e).mp q)
theorem CR_lt {D : Nat → Nat → Nat} {bn h u : Nat} (hW : qWF D) : ∀ {k a c : Nat}, CR D bn h u k a c → a < 2 ^ D 0 0
  | 0, a, c, q => by
    rw [q.1]
    exact Nat.two_pow_pos _
  | k + 1, a, c, q => by
    by_cases e : D 9 (u + k) = h
    · obtain ⟨i, a', c', h1, h2, h3, h4, h5, h6⟩ := (CR_yes e).mp q
      rw [h5]
      exact Nat.or_lt_two_pow (CR_lt hW h3) (qmk_lt hW h1)
    · exact CR_lt hW ((CR_no e).mp q)
theorem CR_1024 {D : Nat → Nat → Nat} {bn h u k a c : Nat} (hW : qWF D) (q : CR D bn h u k a c) : a < 1024 := Nat.lt_of_lt_of_le (CR_lt hW q) (p2_31 hW.1.1)
/-- how many of the kind are in the set -/
def kct (D : Nat → Nat → Nat) (a k n : Nat) : Nat := fb_ct (fun p => a.testBit p && decide (D 1 p = k)) n
theorem kct_s (D : Nat → Nat → Nat) (a k n : Nat) : kct D a k (n + 1) = kct D a k n + (if a.testBit n && decide (D 1 n = k) then 1 else 0) := rfl
theorem kct_0 (D : Nat → Nat → Nat) (k n : Nat) : kct D 0 k n = 0 := fb_ct_zero.mpr (fun p _ => by rw [Nat.zero_testBit, Bool.false_and])
theorem ct_one {x n : Nat} (h : x < n) : fb_ct (fun p => decide (p = x)) n = 1 := by
  have e := fb_ct_upd (fun _ => false) true h
  have e1 : fb_ct (fun k => if k = x then true else false) n = fb_ct (fun p => decide (p = x)) n := fb_ct_cong (fun k _ => by
    by_cases q : k = x
    · rw [if_pos q, decide_eq_true q]
    · rw [if_neg q, decide_eq_false q])
  have e2 : fb_ct (fun _ => false) n = 0 := fb_ct_zero.mpr (fun _ _ => rfl)
  rw [e1, e2] at e
  simpa using e
theorem kct_qmk {D : Nat → Nat → Nat} (hW : qWF D) {i k : Nat} (hi : i < D 0 9) (hk : k ≤ 2) : kct D (qmk D i) k (D 0 0) = 1 := by
  obtain ⟨a1, a2, a3, a4, a5, a6⟩ := hW.2.1.2 i hi
  unfold kct
  rcases (by omega : k = 0 ∨ k = 1 ∨ k = 2) with e | e | e <;> subst e
  · refine Eq.trans (fb_ct_cong (fun p _ => ?_)) (ct_one a1)
    rw [qmk_bit]
    by_cases q : p = D 17 i
    · subst q
      rw [decide_eq_true a4, decide_eq_true rfl]
      simp
    · rw [decide_eq_false q]
      by_cases q1 : p = D 18 i
      · subst q1
        rw [a5]; simp
      · by_cases q2 : p = D 19 i
        · subst q2
          rw [a6]; simp
        · rw [decide_eq_false (show ¬ D 17 i = p by omega), decide_eq_false (show ¬ D 18 i = p by omega), decide_eq_false (show ¬ D 19 i = p by omega)]
          rfl
  · refine Eq.trans (fb_ct_cong (fun p _ => ?_)) (ct_one a2)
    rw [qmk_bit]
    by_cases q : p = D 18 i
    · subst q
      rw [decide_eq_true a5, decide_eq_true rfl]
      simp
    · rw [decide_eq_false q]
      by_cases q1 : p = D 17 i
      · subst q1
        rw [a4]; simp
      · by_cases q2 : p = D 19 i
        · subst q2
          rw [a6]; simp
        · rw [decide_eq_false (show ¬ D 17 i = p by omega), decide_eq_false (show ¬ D 18 i = p by omega), decide_eq_false (show ¬ D 19 i = p by omega)]
          rfl
  · refine Eq.trans (fb_ct_cong (fun p _ => ?_)) (ct_one a3)
    rw [qmk_bit]
    by_cases q : p = D 19 i
    · subst q
      rw [decide_eq_true a6, decide_eq_true rfl]
      simp
    · rw [decide_eq_false q]
      by_cases q1 : p = D 17 i
      · subst q1
        rw [a4]; simp
      · by_cases q2 : p = D 18 i
        · subst q2
          rw [a5]; simp
        · rw [decide_eq_false (show ¬ D 17 i = p by omega), decide_eq_false (show ¬ D 18 i = p by omega), decide_eq_false (show ¬ D 19 i = p by omega)]
          rfl
theorem and0_bit {a b p : Nat} (h : a &&& b = 0) : ¬ (a.testBit p = true ∧ b.testBit p = true) := by
  rintro ⟨h1, h2⟩
  have e := congrArg (fun x => x.testBit p) h
  rw [Nat.testBit_and, h1, h2, Nat.zero_testBit] at e
  exact absurd e (by decide)
theorem kct_or {D : Nat → Nat → Nat} {a b k n : Nat} (h : a &&& b = 0) : kct D (a ||| b) k n = kct D a k n + kct D b k n := by
  unfold kct
  rw [← fb_ct_or (fun p _ => by
    rintro ⟨q1, q2⟩
    rw [Bool.and_eq_true] at q1 q2
    exact and0_bit h ⟨q1.1, q2.1⟩)]
  refine fb_ct_cong (fun p _ => ?_)
  rw [Nat.testBit_or]
  cases a.testBit p <;> cases b.testBit p <;> simp
theorem CR_kct {D : Nat → Nat → Nat} {bn h u : Nat} (hW : qWF D) {x : Nat} (hx : x ≤ 2) : ∀ {k a c : Nat}, CR D bn h u k a c → kct D a x (D 0 0) = hk D h u k
  | 0, a, c, q => by
    rw [q.1, kct_0]
    rfl
  | k + 1, a, c, q => by
    rw [hk_s]
    by_cases e : D 9 (u + k) = h
    · obtain ⟨i, a', c', h1, h2, h3, h4, h5, h6⟩ := (CR_yes e).mp q
      rw [if_pos e, h5, kct_or h4, CR_kct hW hx h3, kct_qmk hW h1 hx]
    · rw [if_neg e]
      exact CR_kct hW hx ((CR_no e).mp q)
theorem kct_3 (D : Nat → Nat → Nat) (a : Nat) : ∀ n, kct D a 0 n + kct D a 1 n + kct D a 2 n ≤ n
  | 0 => Nat.le_refl _
  | n + 1 => by
    have := kct_3 D a n
    rw [kct_s, kct_s, kct_s]
    by_cases h0 : D 1 n = 0
    · rw [h0]
      cases a.testBit n <;> simp <;> omega
    · by_cases h1 : D 1 n = 1
      · rw [h1]
        cases a.testBit n <;> simp <;> omega
      · by_cases h2 : D 1 n = 2
        · rw [h2]
          cases a.testBit n <;> simp <;> omega
        · rw [decide_eq_false h0, decide_eq_false h1, decide_eq_false h2]
          simp; omega
theorem CR_hk3 {D : Nat → Nat → Nat} {bn h u k a c : Nat} (hW : qWF D) (q : CR D bn h u k a c) : hk D h u k ≤ 3 := by
  have h1 := kct_3 D a (D 0 0)
  rw [CR_kct hW (by omega) q, CR_kct hW (by omega) q, CR_kct hW (by omega) q] at h1
  have := hW.1.1
  omega
theorem CR_c18 {D : Nat → Nat → Nat} {bn h u k a c : Nat} (hW : qWF D) (q : CR D bn h u k a c) : c < 262144 := by
  have h1 := CR_code hW.2.1.1 q
  have h2 : 64 ^ hk D h u k ≤ 64 ^ 3 := Nat.pow_le_pow_right (by omega) (CR_hk3 hW q)
  omega
/-! how many sets there are with so many of each kind -/
def chs : Nat → Nat → Nat
  | _, 0 => 1
  | 0, _ + 1 => 0
  | n + 1, k + 1 => chs n (k + 1) + chs n k
theorem chs_0 (n : Nat) : chs n 0 = 1 := by cases n <;> rfl
theorem chs_s (n k : Nat) : chs (n + 1) (k + 1) = chs n (k + 1) + chs n k := rfl
def kP (D : Nat → Nat → Nat) (n x y z a : Nat) : Bool := decide (kct D a 0 n = x) && (decide (kct D a 1 n = y) && decide (kct D a 2 n = z))
theorem tb_hi {n k p : Nat} (hk : k < 2 ^ n) (hp : p < n) : (2 ^ n + k).testBit p = k.testBit p := by
  rw [Nat.testBit_two_pow_add_gt hp]
theorem tb_top {n k : Nat} (hk : k < 2 ^ n) : (2 ^ n + k).testBit n = true := by
  rw [Nat.testBit_two_pow_add_eq, bits_of_lt hk (Nat.le_refl _)]
  rfl
theorem kct_hi {D : Nat → Nat → Nat} {n k x : Nat} (hk : k < 2 ^ n) : kct D (2 ^ n + k) x (n + 1) = kct D k x n + (if D 1 n = x then 1 else 0) := by
  rw [kct_s, tb_top hk]
  have e : kct D (2 ^ n + k) x n = kct D k x n := fb_ct_cong (fun p hp => by rw [tb_hi hk hp])
  rw [e]
  by_cases q : D 1 n = x
  · simp [q]
  · simp [q]
theorem kct_lo {D : Nat → Nat → Nat} {n k x : Nat} (hk : k < 2 ^ n) : kct D k x (n + 1) = kct D k x n := by
  rw [kct_s, bits_of_lt hk (Nat.le_refl _)]
  rfl
theorem kP_s (D : Nat → Nat → Nat) (n x y z : Nat) : fb_ct (kP D (n + 1) x y z) (2 ^ (n + 1)) = fb_ct (kP D n x y z) (2 ^ n) + fb_ct (fun k => decide (kct D k 0 n + (if D 1 n = 0 then 1 else 0) = x) && (decide (kct D k 1 n + (if D 1 n = 1 then 1 else 0) = y) && decide (kct D k 2 n + (if D 1 n = 2 then 1 else 0) = z))) (2 ^ n) := by
  rw [Nat.pow_succ, Nat.mul_two, fb_ct_split]
  congr 1
  · refine fb_ct_cong (fun k hk => ?_)
    unfold kP
    rw [kct_lo hk, kct_lo hk, kct_lo hk]
  · refine fb_ct_cong (fun k hk => ?_)
    unfold kP
    rw [kct_hi hk, kct_hi hk, kct_hi hk]
theorem kP_ct (D : Nat → Nat → Nat) : ∀ n, (∀ p, p < n → D 1 p ≤ 2) → ∀ x y z, fb_ct (kP D n x y z) (2 ^ n) ≤ chs (lkC D 0 n) x * (chs (lkC D 1 n) y * chs (lkC D 2 n) z)
  | 0, _, x, y, z => by
    have e : ∀ a k, kct D a k 0 = 0 := fun _ _ => rfl
    have e2 : ∀ k, lkC D k 0 = 0 := fun _ => rfl
    rw [e2, e2, e2]
    show 0 + (if kP D 0 x y z 0 then 1 else 0) ≤ _
    unfold kP
    rw [e, e, e]
    cases x with
    | zero =>
      cases y with
      | zero =>
        cases z with
        | zero => exact Nat.le_refl _
        | succ z => exact Nat.le_refl _
      | succ y => cases z <;> exact Nat.zero_le _
    | succ x => cases y <;> cases z <;> exact Nat.zero_le _
  | n + 1, hD, x, y, z => by
    rw [kP_s, lkC_s, lkC_s, lkC_s]
    have ih := kP_ct D n (fun p hp => hD p (by omega))
    have hDn := hD n (by omega)
    by_cases h0 : D 1 n = 0
    · rw [if_pos h0, if_neg (show ¬ D 1 n = 1 by omega), if_neg (show ¬ D 1 n = 2 by omega)]
      simp only [Nat.add_zero]
      cases x with
      | zero =>
        have e : fb_ct (fun k => decide (kct D k 0 n + 1 = 0) && (decide (kct D k 1 n = y) && decide (kct D k 2 n = z))) (2 ^ n) = 0 := fb_ct_zero.mpr (fun k _ => by rw [decide_eq_false (by omega), Bool.false_and])
        rw [e, chs_0, Nat.add_zero]
        have := ih 0 y z
        rw [chs_0] at this
        exact this
      | succ x =>
        have e : fb_ct (fun k => decide (kct D k 0 n + 1 = x + 1) && (decide (kct D k 1 n = y) && decide (kct D k 2 n = z))) (2 ^ n) = fb_ct (kP D n x y z) (2 ^ n) := fb_ct_cong (fun k _ => by
          unfold kP
          congr 1
          exact decide_eq_decide.mpr (by omega))
        rw [e, chs_s, Nat.add_mul]
        exact Nat.add_le_add (ih (x + 1) y z) (ih x y z)
    · by_cases h1 : D 1 n = 1
      · rw [if_neg h0, if_pos h1, if_neg (show ¬ D 1 n = 2 by omega)]
        simp only [Nat.add_zero]
        cases y with
        | zero =>
          have e : fb_ct (fun k => decide (kct D k 0 n = x) && (decide (kct D k 1 n + 1 = 0) && decide (kct D k 2 n = z))) (2 ^ n) = 0 := fb_ct_zero.mpr (fun k _ => by rw [decide_eq_false (show ¬ kct D k 1 n + 1 = 0 by omega), Bool.false_and, Bool.and_false])
          rw [e, chs_0, Nat.add_zero]
          have := ih x 0 z
          rw [chs_0] at this
          exact this
        | succ y =>
          have e : fb_ct (fun k => decide (kct D k 0 n = x) && (decide (kct D k 1 n + 1 = y + 1) && decide (kct D k 2 n = z))) (2 ^ n) = fb_ct (kP D n x y z) (2 ^ n) := fb_ct_cong (fun k _ => by
            unfold kP
            congr 2
            exact decide_eq_decide.mpr (by omega))
          rw [e, chs_s, Nat.add_mul, Nat.mul_add]
          exact Nat.add_le_add (ih x (y + 1) z) (ih x y z)
      · by_cases h2 : D 1 n = 2
        · rw [if_neg h0, if_neg h1, if_pos h2]
          simp only [Nat.add_zero]
          cases z with
          | zero =>
            have e : fb_ct (fun k => decide (kct D k 0 n = x) && (decide (kct D k 1 n = y) && decide (kct D k 2 n + 1 = 0))) (2 ^ n) = 0 := fb_ct_zero.mpr (fun k _ => by rw [decide_eq_false (show ¬ kct D k 2 n + 1 = 0 by omega), Bool.and_false, Bool.and_false])
            rw [e, chs_0, Nat.add_zero]
            have := ih x y 0
            rw [chs_0] at this
            exact this
          | succ z =>
            have e : fb_ct (fun k => decide (kct D k 0 n = x) && (decide (kct D k 1 n = y) && decide (kct D k 2 n + 1 = z + 1))) (2 ^ n) = fb_ct (kP D n x y z) (2 ^ n) := fb_ct_cong (fun k _ => by
              unfold kP
              congr 3
              exact propext (by omega))
            rw [e, chs_s, Nat.mul_add, Nat.mul_add]
            exact Nat.add_le_add (ih x y (z + 1)) (ih x y z)
        · omega
theorem ch64 : ∀ a, a < 11 → ∀ b, b < 11 → ∀ c, c < 11 → ∀ j, j < 4 → a + b + c ≤ 10 → chs a j * (chs b j * chs c j) ≤ 64 := by decide +kernel
/-- no more than 64 sets of like many of each kind -/
theorem few {D : Nat → Nat → Nat} {L j : Nat} {f : Nat → Nat} (hn : D 0 0 ≤ 10) (hD : ∀ p, p < D 0 0 → D 1 p ≤ 2) (hj : j ≤ 3) (h1 : ∀ i, i < L → f i < 2 ^ D 0 0) (h2 : ∀ i x, i < L → x ≤ 2 → kct D (f i) x (D 0 0) = j) (h3 : ∀ a b, a < b → b < L → f a < f b) : L ≤ 64 := by
  have hp : ∀ i, i < L → kP D (D 0 0) j j j (f i) = true := fun i hi => by
    unfold kP
    rw [h2 i 0 hi (by omega), h2 i 1 hi (by omega), h2 i 2 hi (by omega)]
    simp
  have hc := kP_ct D (D 0 0) hD j j j
  have h4 := lkC_3 D (D 0 0)
  have h5 := ch64 (lkC D 0 (D 0 0)) (by omega) (lkC D 1 (D 0 0)) (by omega) (lkC D 2 (D 0 0)) (by omega) j (by omega) (by omega)
  refine Nat.le_trans (fb_holes (fb_ct (kP D (D 0 0) j j j) (2 ^ D 0 0)) L (fun i => fb_ct (kP D (D 0 0) j j j) (f i)) (fun i hi => ?_) (fun a b hab hb => ?_)) (Nat.le_trans hc h5)
  · have e := fb_ct_mono (kP D (D 0 0) j j j) (show f i + 1 ≤ 2 ^ D 0 0 from h1 i hi)
    rw [fb_ct_succ, hp i hi, if_pos rfl] at e
    exact e
  · intro q
    have := fb_ct_kth_one (hp a (by omega)) (hp b hb) q
    have := h3 a b hab hb
    omega
