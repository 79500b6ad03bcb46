/-! the least price from an hour on -/
def okB (l a w : Nat) : Bool := decide (l = 0) || decide (a &&& w = 0)
/-- the least V of the sets below k that A tells and that go with w (1000000: there is none) -/
def bst (A : Nat → Bool) (V : Nat → Nat) (l w : Nat) : Nat → Nat
  | 0 => 1000000
  | a + 1 => if A a && okB l a w then (if V a < bst A V l w a then V a else bst A V l w a) else bst A V l w a
/-- the least price of the last m hours, w worn ahead of them -/
def lcm (A : Nat → Nat → Bool) (f : Nat → Nat) (n l : Nat) : Nat → Nat → Nat
  | 0, _ => 0
  | m + 1, w => bst (A (11 - m)) (fun a => sS f a n + lcm A f n l m a) l w 1024
theorem bst_s (A : Nat → Bool) (V : Nat → Nat) (l w a : Nat) : bst A V l w (a + 1) = if A a && okB l a w then (if V a < bst A V l w a then V a else bst A V l w a) else bst A V l w a := rfl
theorem bst_le (A : Nat → Bool) (V : Nat → Nat) (l w : Nat) : ∀ k, bst A V l w k ≤ 1000000
  | 0 => Nat.le_refl _
  | a + 1 => by
    have ih := bst_le A V l w a
    rw [bst_s]
    split
    · split
      · omega
      · exact ih
    · exact ih
theorem bst_mono (A : Nat → Bool) (V : Nat → Nat) (l w a : Nat) : bst A V l w (a + 1) ≤ bst A V l w a := by
  rw [bst_s]
  split
  · split <;> omega
  · omega
theorem bst_low {A : Nat → Bool} {V : Nat → Nat} {l w a : Nat} (h1 : A a = true) (h2 : okB l a w = true) : ∀ k, a < k → bst A V l w k ≤ V a
  | 0, h => absurd h (Nat.not_lt_zero _)
  | k + 1, h => by
    by_cases e : k = a
    · subst e
      rw [bst_s, h1, h2]
      simp only [Bool.and_self, if_true]
      split <;> omega
    · exact Nat.le_trans (bst_mono A V l w k) (bst_low h1 h2 k (by omega))
theorem bst_at {A : Nat → Bool} {V : Nat → Nat} {l w : Nat} : ∀ k, bst A V l w k = 1000000 ∨ ∃ a, a < k ∧ A a = true ∧ okB l a w = true ∧ V a < 1000000 ∧ bst A V l w k = V a
  | 0 => .inl rfl
  | k + 1 => by
    have ih := bst_at (A := A) (V := V) (l := l) (w := w) k
    have up : (∃ a, a < k ∧ A a = true ∧ okB l a w = true ∧ V a < 1000000 ∧ bst A V l w k = V a) → ∃ a, a < k + 1 ∧ A a = true ∧ okB l a w = true ∧ V a < 1000000 ∧ bst A V l w k = V a := by
      rintro ⟨a, h1, h2⟩
      exact ⟨a, by omega, h2⟩
    rw [bst_s]
    by_cases e : (A k && okB l k w) = true
    · rw [if_pos e]
      rw [Bool.and_eq_true] at e
      by_cases e2 : V k < bst A V l w k
      · rw [if_pos e2]
        have := bst_le A V l w k
        exact .inr ⟨k, by omega, e.1, e.2, by omega, rfl⟩
      · rw [if_neg e2]
        rcases ih with h | h
        · exact .inl h
        · exact .inr (up h)
    · rw [if_neg e]
      rcases ih with h | h
      · exact .inl h
      · exact .inr (up h)
theorem bst_cong {A : Nat → Bool} {V : Nat → Nat} {w w' : Nat} : ∀ k, bst A V 0 w k = bst A V 0 w' k
  | 0 => rfl
  | k + 1 => by
    rw [bst_s, bst_s, bst_cong (w := w) (w' := w') k]
    rfl
section LC
variable {A : Nat → Nat → Bool} {f : Nat → Nat} {n l : Nat}
theorem lcm_s (m w : Nat) : lcm A f n l (m + 1) w = bst (A (11 - m)) (fun a => sS f a n + lcm A f n l m a) l w 1024 := rfl
theorem lcm_0 {m w w' : Nat} (h : l = 0) : lcm A f n l m w = lcm A f n l m w' := by
  cases m with
  | zero => rfl
  | succ m =>
    rw [lcm_s, lcm_s, h]
    exact bst_cong 1024
theorem lcm_b (hf : ∀ p, p < n → f p ≤ 99) (hn : n ≤ 10) : ∀ m w, lcm A f n l m w = 1000000 ∨ lcm A f n l m w ≤ 990 * m
  | 0, w => .inr (Nat.le_refl _)
  | m + 1, w => by
    rw [lcm_s]
    rcases bst_at (A := A (11 - m)) (V := fun a => sS f a n + lcm A f n l m a) (l := l) (w := w) 1024 with h | ⟨a, h1, h2, h3, h4, h5⟩
    · exact .inl h
    · right
      rw [h5]
      have e1 := sS_le (a := a) hf
      have e2 : n * 99 ≤ 990 := by omega
      rcases lcm_b hf hn m a with h | h
      · exfalso
        rw [h] at h4
        omega
      · omega
theorem lcm_fin (hf : ∀ p, p < n → f p ≤ 99) (hn : n ≤ 10) {m w : Nat} (hm : m ≤ 12) : lcm A f n l m w = 1000000 ∨ lcm A f n l m w ≤ 11880 := by
  rcases lcm_b (A := A) (l := l) hf hn m w with h | h
  · exact .inl h
  · right; omega
theorem lcm_le (m w : Nat) : lcm A f n l m w ≤ 1000000 := by
  cases m with
  | zero => exact Nat.zero_le _
  | succ m => exact bst_le _ _ _ _ _
/-- the first set of the hour by which the price is the least -/
def fsP (A : Nat → Nat → Bool) (f : Nat → Nat) (n l h w a : Nat) : Bool := A h a && (okB l a w && decide (sS f a n + lcm A f n l (11 - h) a = lcm A f n l (12 - h) w))
def fsN (A : Nat → Nat → Bool) (f : Nat → Nat) (n l h w : Nat) : Nat := fa_first (fsP A f n l h w) 1024
def wrN (A : Nat → Nat → Bool) (f : Nat → Nat) (n l : Nat) : Nat → Nat
  | 0 => 0
  | h + 1 => fsN A f n l h (wrN A f n l h)
theorem fsP_iff {h w a : Nat} : fsP A f n l h w a = true ↔ A h a = true ∧ okB l a w = true ∧ sS f a n + lcm A f n l (11 - h) a = lcm A f n l (12 - h) w := by
  unfold fsP
  rw [Bool.and_eq_true, Bool.and_eq_true, decide_eq_true_iff]
theorem fa_is {p : Nat → Bool} {n x : Nat} (hx : x < n) (h1 : p x = true) (h2 : ∀ y, y < x → p y = false) : fa_first p n = x := by
  rcases Nat.lt_trichotomy (fa_first p n) x with q | q | q
  · have := fa_first_yes p n (by omega)
    rw [h2 _ q] at this
    exact absurd this (by decide)
  · exact q
  · have := fa_first_no p n x q
    rw [h1] at this
    exact absurd this (by decide)
theorem fa_ex {p : Nat → Bool} {n x : Nat} (hx : x < n) (h1 : p x = true) : fa_first p n < n ∧ p (fa_first p n) = true := by
  have hl : fa_first p n ≤ x := by
    rcases Nat.lt_or_ge x (fa_first p n) with q | q
    · have := fa_first_no p n x q
      rw [h1] at this
      exact absurd this (by decide)
    · exact q
  exact ⟨by omega, fa_first_yes p n (by omega)⟩
theorem fs_ok {h w : Nat} (hh : h < 12) (hl : lcm A f n l (12 - h) w < 1000000) : fsN A f n l h w < 1024 ∧ fsP A f n l h w (fsN A f n l h w) = true := by
  have e : 12 - h = 11 - h + 1 := by omega
  have e2 : 11 - (11 - h) = h := by omega
  have e3 := lcm_s (A := A) (f := f) (n := n) (l := l) (11 - h) w
  rw [← e, e2] at e3
  rcases bst_at (A := A h) (V := fun a => sS f a n + lcm A f n l (11 - h) a) (l := l) (w := w) 1024 with q | ⟨a, h1, h2, h3, h4, h5⟩
  · rw [← e3] at q
    omega
  · exact fa_ex h1 (fsP_iff.mpr ⟨h2, h3, by rw [e3, h5]⟩)
theorem wr_ok (hl : lcm A f n l 12 0 < 1000000) : ∀ h, h ≤ 12 → lcm A f n l (12 - h) (wrN A f n l h) < 1000000
  | 0, _ => hl
  | h + 1, hh => by
    have ih := wr_ok hl h (by omega)
    obtain ⟨-, h2⟩ := fs_ok (show h < 12 by omega) ih
    obtain ⟨-, -, h5⟩ := fsP_iff.mp h2
    show lcm A f n l (12 - (h + 1)) (fsN A f n l h (wrN A f n l h)) < _
    rw [show 12 - (h + 1) = 11 - h by omega]
    omega
theorem wr_P (hl : lcm A f n l 12 0 < 1000000) {h : Nat} (hh : h < 12) : wrN A f n l (h + 1) < 1024 ∧ A h (wrN A f n l (h + 1)) = true ∧ fsP A f n l h (wrN A f n l h) (wrN A f n l (h + 1)) = true := by
  obtain ⟨h1, h2⟩ := fs_ok hh (wr_ok hl h (by omega))
  exact ⟨h1, (fsP_iff.mp h2).1, h2⟩
end LC
/-- what can be worn in the hour -/
noncomputable def aB (D : Nat → Nat → Nat) (bn h a : Nat) : Bool := @decide (∃ c, CR D bn h 0 (D 0 1) a c) (Classical.propDecidable _)
theorem aB_iff {D : Nat → Nat → Nat} {bn h a : Nat} : aB D bn h a = true ↔ ∃ c, CR D bn h 0 (D 0 1) a c := by
  unfold aB
  exact @decide_eq_true_iff _ (Classical.propDecidable _)
/-- the model's row 111 -/
def aRow (A : Nat → Nat → Bool) (M : gM) : Prop := ∀ h, h < 12 → ∀ a, a < 1024 → M 111 (1024 * h + a) = nI (if A h a then 1 else 0)
theorem aRow_of {D : Nat → Nat → Nat} {bn : Nat} {M : gM} (h : ∀ h, h < 12 → bRR (fun a => ∃ c, CR D bn h 0 (D 0 1) a c) M 111 (1024 * h)) : aRow (aB D bn) M := fun i hi a ha => by
  rcases h i hi a ha with ⟨h1, h2⟩ | ⟨h1, h2⟩
  · rw [h1, if_pos (aB_iff.mpr h2)]
  · rw [h1, if_neg (fun q => h2 (aB_iff.mp q))]
/-- the model's row 112 from the hour h on -/
def lRow (A : Nat → Nat → Bool) (f : Nat → Nat) (n l : Nat) (M : gM) (h : Nat) : Prop :=
  M 112 (1024 * h) = nI (lcm A f n l (12 - h) 0) ∧ (l = 1 → ∀ a, a < 1024 → (h = 12 ∨ 0 < h ∧ A (h - 1) a = true) → M 112 (1024 * h + a) = nI (lcm A f n l (12 - h) a))
/-- the model's prices and law at x -/
def pRow (D : Nat → Nat → Nat) (f : Nat → Nat) (l x : Nat) (M : gM) : Prop := (∀ p, p < D 0 0 → M 96 (x + 10 + p) = nI (f p)) ∧ M 96 (x + 31) = nI l ∧ qTW D M
theorem lRow_next {A : Nat → Nat → Bool} {f : Nat → Nat} {n l : Nat} {M : gM} {h a : Nat} (hh : h < 12) (hl : l ≤ 1) (q : lRow A f n l M (h + 1)) (ha : a < 1024) (hA : A h a = true) : M 112 (1024 * (h + 1) + (if l = 0 then 0 else a)) = nI (lcm A f n l (11 - h) a) := by
  have e : 12 - (h + 1) = 11 - h := by omega
  obtain ⟨q1, q2⟩ := q
  rw [e] at q1 q2
  by_cases z : l = 0
  · rw [if_pos z, Nat.add_zero, q1, lcm_0 z]
  · rw [if_neg z]
    exact q2 (by omega) a ha (.inr ⟨by omega, by rw [Nat.add_sub_cancel]; exact hA⟩)
section EV
variable {F : Nat} {D : Nat → Nat → Nat} {M : gM} {A : Nat → Nat → Bool} {f : Nat → Nat} {l x : Nat}
theorem e9_best (hF : 4000 ≤ F) (hW : qWF D) (hP : pRow D f l x M) (hA : aRow A M) (hf : ∀ p, p < D 0 0 → f p ≤ 99) (hl : l ≤ 1) (hx : x ≤ 40) {h : Nat} (hh : h < 12) (hN : lRow A f (D 0 0) l M (h + 1)) {w : Nat} (hw : w < 1024) :
    f_X9_best F (nI x) (nI h) (nI w) M = some (nI (lcm A f (D 0 0) l (12 - h) w)) := by
  have hn := hW.1.1
  obtain ⟨p1, p2, p3⟩ := hP
  obtain ⟨s, h1, h2⟩ := up_inv (fun q a (s : Int32) => f_X9_best_h7 F (nI x) (nI h) (nI w) M q s (nI a)) 1024 (fun a s => s = nI (bst (A h) (fun a => sS f a (D 0 0) + lcm A f (D 0 0) l (11 - h) a) l w a)) (by
    intro q a s ha hs
    refine ⟨_, rfl, ?_⟩
    subst hs
    have v1 := hA h hh a ha
    have e1 : nI 1024 * nI h = nI (1024 * h) := pk_mul _ _
    have e2 : nI 1024 * nI (h + 1) = nI (1024 * (h + 1)) := pk_mul _ _
    have e3 := e9_sumOf (x := x + 10) (a := a) hF hW p3 ha (by omega) p1
    have b1 := bst_le (A h) (fun a => sS f a (D 0 0) + lcm A f (D 0 0) l (11 - h) a) l w a
    have b2 := lcm_le (A := A) (f := f) (n := D 0 0) (l := l) (11 - h) a
    have b3 : sS f a (D 0 0) ≤ 990 := by
      have := sS_le (a := a) hf
      omega
    have b4 : a &&& w < 1024 := Nat.lt_of_le_of_lt Nat.and_le_left ha
    rw [bst_s]
    show f_X9_best_h7_b F _ _ _ M _ _ _ = _
    unfold f_X9_best_h7_b f_X9_best_b50 f_X9_best_b89
    cases c : A h a
    · rw [c] at v1
      simp (disch := omega) only [pn_lt, pn_ltM, pl_ofN, ↓pl_m1, pl_lit, fa_litL, pn_bs, ck_n, ckh_n, ck_t, ckh_t, nI_add, nI_clamp, nI_ltI, nI_leI, nI_eq, m1_eq, m1_eq2, m1_lt, m1_le, m1_lt2, m1_le2, m1_m1, nI_m1, nI_subn, gb_n, Nat.add_zero, Nat.zero_add, Nat.zero_or, Nat.or_zero, nle_f, nle_t, nlt_f, nlt_t, neq_f, neq_t, Bool.false_eq_true, eq_self, if_true, if_false, ite_true, ite_false, and_true, true_and, and_false, false_and, decide_true, decide_false, Bool.and_true, Bool.true_and, Bool.and_false, Bool.false_and, Bool.or_false, Bool.false_or, Bool.or_true, Bool.true_or, Bool.not_true, Bool.not_false, not_true_eq_false, not_false_eq_true, e1, v1]
    · rw [c] at v1
      have v2 := lRow_next hh hl hN ha c
      generalize bst (A h) (fun a => sS f a (D 0 0) + lcm A f (D 0 0) l (11 - h) a) l w a = B at *
      generalize lcm A f (D 0 0) l (11 - h) a = C at *
      generalize sS f a (D 0 0) = G at *
      by_cases z : l = 0
      · subst z
        have z1 : okB 0 a w = true := rfl
        rw [if_pos rfl, Nat.add_zero] at v2
        rw [z1]
        by_cases z2 : G + C < B
        · simp (disch := omega) only [pn_lt, pn_ltM, pl_ofN, ↓pl_m1, pl_lit, fa_litL, pn_bs, ck_n, ckh_n, ck_t, ckh_t, nI_add, nI_clamp, nI_ltI, nI_leI, nI_eq, m1_eq, m1_eq2, m1_lt, m1_le, m1_lt2, m1_le2, m1_m1, nI_m1, nI_subn, gb_n, Nat.add_zero, Nat.zero_add, Nat.zero_or, Nat.or_zero, nle_f, nle_t, nlt_f, nlt_t, neq_f, neq_t, Bool.false_eq_true, eq_self, if_true, if_false, ite_true, ite_false, and_true, true_and, and_false, false_and, decide_true, decide_false, Bool.and_true, Bool.true_and, Bool.and_false, Bool.false_and, Bool.or_false, Bool.false_or, Bool.or_true, Bool.true_or, Bool.not_true, Bool.not_false, not_true_eq_false, not_false_eq_true, e1, e2, v1, p2, e3, v2, z2]
        · simp (disch := omega) only [pn_lt, pn_ltM, pl_ofN, ↓pl_m1, pl_lit, fa_litL, pn_bs, ck_n, ckh_n, ck_t, ckh_t, nI_add, nI_clamp, nI_ltI, nI_leI, nI_eq, m1_eq, m1_eq2, m1_lt, m1_le, m1_lt2, m1_le2, m1_m1, nI_m1, nI_subn, gb_n, Nat.add_zero, Nat.zero_add, Nat.zero_or, Nat.or_zero, nle_f, nle_t, nlt_f, nlt_t, neq_f, neq_t, Bool.false_eq_true, eq_self, if_true, if_false, ite_true, ite_false, and_true, true_and, and_false, false_and, decide_true, decide_false, Bool.and_true, Bool.true_and, Bool.and_false, Bool.false_and, Bool.or_false, Bool.false_or, Bool.or_true, Bool.true_or, Bool.not_true, Bool.not_false, not_true_eq_false, not_false_eq_true, e1, e2, v1, p2, e3, v2, z2]
      · rw [if_neg z] at v2
        by_cases z3 : a &&& w = 0
        · have z1 : okB l a w = true := by unfold okB; rw [decide_eq_true z3, Bool.or_true]
          rw [z1]
          by_cases z2 : G + C < B
          · simp (disch := omega) only [pn_lt, pn_ltM, pl_ofN, ↓pl_m1, pl_lit, fa_litL, pn_bs, ck_n, ckh_n, ck_t, ckh_t, nI_add, nI_clamp, nI_ltI, nI_leI, nI_eq, m1_eq, m1_eq2, m1_lt, m1_le, m1_lt2, m1_le2, m1_m1, nI_m1, nI_subn, gb_n, Nat.add_zero, Nat.zero_add, Nat.zero_or, Nat.or_zero, nle_f, nle_t, nlt_f, nlt_t, neq_f, neq_t, Bool.false_eq_true, eq_self, if_true, if_false, ite_true, ite_false, and_true, true_and, and_false, false_and, decide_true, decide_false, Bool.and_true, Bool.true_and, Bool.and_false, Bool.false_and, Bool.or_false, Bool.false_or, Bool.or_true, Bool.true_or, Bool.not_true, Bool.not_false, not_true_eq_false, not_false_eq_true, e1, e2, v1, p2, e3, v2, z2, pl_and, z3]
          · simp (disch := omega) only [pn_lt, pn_ltM, pl_ofN, ↓pl_m1, pl_lit, fa_litL, pn_bs, ck_n, ckh_n, ck_t, ckh_t, nI_add, nI_clamp, nI_ltI, nI_leI, nI_eq, m1_eq, m1_eq2, m1_lt, m1_le, m1_lt2, m1_le2, m1_m1, nI_m1, nI_subn, gb_n, Nat.add_zero, Nat.zero_add, Nat.zero_or, Nat.or_zero, nle_f, nle_t, nlt_f, nlt_t, neq_f, neq_t, Bool.false_eq_true, eq_self, if_true, if_false, ite_true, ite_false, and_true, true_and, and_false, false_and, decide_true, decide_false, Bool.and_true, Bool.true_and, Bool.and_false, Bool.false_and, Bool.or_false, Bool.false_or, Bool.or_true, Bool.true_or, Bool.not_true, Bool.not_false, not_true_eq_false, not_false_eq_true, e1, e2, v1, p2, e3, v2, z2, pl_and, z3]
        · have z1 : okB l a w = false := by unfold okB; rw [decide_eq_false z3, decide_eq_false z]; rfl
          rw [z1]
          simp (disch := omega) only [pn_lt, pn_ltM, pl_ofN, ↓pl_m1, pl_lit, fa_litL, pn_bs, ck_n, ckh_n, ck_t, ckh_t, nI_add, nI_clamp, nI_ltI, nI_leI, nI_eq, m1_eq, m1_eq2, m1_lt, m1_le, m1_lt2, m1_le2, m1_m1, nI_m1, nI_subn, gb_n, Nat.add_zero, Nat.zero_add, Nat.zero_or, Nat.or_zero, nle_f, nle_t, nlt_f, nlt_t, neq_f, neq_t, Bool.false_eq_true, eq_self, if_true, if_false, ite_true, ite_false, and_true, true_and, and_false, false_and, decide_true, decide_false, Bool.and_true, Bool.true_and, Bool.and_false, Bool.false_and, Bool.or_false, Bool.false_or, Bool.or_true, Bool.true_or, Bool.not_true, Bool.not_false, not_true_eq_false, not_false_eq_true, e1, v1, p2, pl_and, z3]) 1024 0 (nI 1000000) F (by omega) (by omega) rfl
  unfold f_X9_best
  refine h2.trans ?_
  obtain ⟨n', en⟩ : ∃ n', F - 1024 = n' + 1 := ⟨F - 1025, by omega⟩
  rw [en]
  show f_X9_best_h7_b F _ _ _ M _ _ _ = _
  unfold f_X9_best_h7_b
  have e := lcm_s (A := A) (f := f) (n := D 0 0) (l := l) (11 - h) w
  rw [show 11 - h + 1 = 12 - h by omega, show 11 - (11 - h) = h by omega] at e
  rw [e, h1, if_pos (by rw [show (1024 : Int32) = nI 1024 from rfl, nI_leI (by omega) (by omega)]; omega)]
theorem e9_findLeast (hF : 4000 ≤ F) (hW : qWF D) (hP : pRow D f l x M) (hA : aRow A M) (hf : ∀ p, p < D 0 0 → f p ≤ 99) (hl : l ≤ 1) (hx : x ≤ 40) :
    ∃ M', f_X9_findLeast F (nI x) M = some M' ∧ (∀ h, h ≤ 12 → lRow A f (D 0 0) l M' h) ∧ (∀ k, k ≠ 112 → M' k = M k) := by
  have hn := hW.1.1
  have hPf : ∀ N : gM, (∀ k, k ≠ 112 → N k = M k) → pRow D f l x N ∧ aRow A N := fun N hN =>
    ⟨⟨fun p hp => by rw [hN _ (by omega)]; exact hP.1 p hp, by rw [hN _ (by omega)]; exact hP.2.1, qTW_fr hP.2.2 hW.1.1 hW.1.2.1 (fun k j q => by rw [hN k (by omega)])⟩, fun h hh a ha => by rw [hN _ (by omega)]; exact hA h hh a ha⟩
  obtain ⟨N1, ⟨a1, a2⟩, a3⟩ := up_inv (fun q a (N : gM) => f_X9_findLeast_h2 F (nI x) q (nI a) N) 1024 (fun i N => (∀ a, a < i → N 112 (12288 + a) = nI 0) ∧ (∀ k, k ≠ 112 → N k = M k)) (by
    rintro q i N hi ⟨u1, u2⟩
    refine ⟨gst N 112 (12288 + i) (nI 0), ⟨fun a ha => ?_, fun k hk => by rw [gst_ne _ _ _ _ hk, u2 k hk]⟩, ?_⟩
    · rw [gst_v]
      by_cases e : a = i
      · rw [if_pos ⟨rfl, by omega⟩]
      · rw [if_neg (by omega)]
        exact u1 a (by omega)
    · show f_X9_findLeast_h2_b F _ _ _ _ = _
      unfold f_X9_findLeast_h2_b
      simp (disch := omega) only [pn_lt, pn_ltM, pl_ofN, ↓pl_m1, pl_lit, fa_litL, pn_bs, ck_n, ckh_n, ck_t, ckh_t, nI_add, nI_clamp, nI_ltI, nI_leI, nI_eq, m1_eq, m1_eq2, m1_lt, m1_le, m1_lt2, m1_le2, m1_m1, nI_m1, nI_subn, gb_n, Nat.add_zero, Nat.zero_add, Nat.zero_or, Nat.or_zero, nle_f, nle_t, nlt_f, nlt_t, neq_f, neq_t, Bool.false_eq_true, eq_self, if_true, if_false, ite_true, ite_false, and_true, true_and, and_false, false_and, decide_true, decide_false, Bool.and_true, Bool.true_and, Bool.and_false, Bool.false_and, Bool.or_false, Bool.false_or, Bool.or_true, Bool.true_or, Bool.not_true, Bool.not_false, not_true_eq_false, not_false_eq_true]) 1024 0 M F (by omega) (by omega) ⟨fun a ha => absurd ha (Nat.not_lt_zero _), fun _ _ => rfl⟩
  have hr12 : lRow A f (D 0 0) l N1 12 := ⟨a1 0 (by omega), fun _ a ha _ => a1 a ha⟩
  -- one hour's row, by law 1
  have inner : ∀ (h : Nat) (k29 : Int32 → gM → Option gM) (N : gM), h < 12 → (∀ k, k ≠ 112 → N k = M k) → (∀ h', h < h' → h' ≤ 12 → lRow A f (D 0 0) l N h') → N 112 (1024 * h) = nI (lcm A f (D 0 0) l (12 - h) 0) →
      ∃ N', f_X9_findLeast_h52 F (nI x) k29 F (nI h) (nI 1) N = k29 (dn h) N' ∧ (∀ k, k ≠ 112 → N' k = M k) ∧ (∀ h', h ≤ h' → h' ≤ 12 → lRow A f (D 0 0) l N' h') := by
    intro h k29 N hh q1 q2 q3
    obtain ⟨⟨pp1, pp2, pp3⟩, qa⟩ := hPf N q1
    obtain ⟨F', eF⟩ : ∃ F', F = F' + 1 := ⟨F - 1, by omega⟩
    have e4 : nI h + m1 = dn h := dn_m h
    by_cases z : l = 1 ∧ 0 < h
    · obtain ⟨z1, z2⟩ := z
      obtain ⟨g, eg⟩ : ∃ g, h = g + 1 := ⟨h - 1, by omega⟩
      obtain ⟨N', ⟨b1, b2, b3⟩, b4⟩ := up_inv (fun q i (N : gM) => f_X9_findLeast_h52 F (nI x) k29 q (nI h) (nI (1 + i)) N) 1023 (fun i N' => (∀ k, k ≠ 112 → N' k = M k) ∧ (∀ j, ¬ (1024 * h + 1 ≤ j ∧ j < 1024 * h + 1024) → N' 112 j = N 112 j) ∧ (∀ a, 1 ≤ a → a < 1 + i → A (h - 1) a = true → N' 112 (1024 * h + a) = nI (lcm A f (D 0 0) l (12 - h) a))) (by
        rintro q i N' hi ⟨u1, u2, u3⟩
        obtain ⟨⟨w1, w2, w3⟩, wa⟩ := hPf N' u1
        have wr : lRow A f (D 0 0) l N' (h + 1) := by
          obtain ⟨y1, y2⟩ := q2 (h + 1) (by omega) (by omega)
          exact ⟨by rw [u2 _ (by omega)]; exact y1, fun hl1 a ha hA1 => by rw [u2 _ (by omega)]; exact y2 hl1 a ha hA1⟩
        have hb := e9_best (w := 1 + i) hF hW ⟨w1, w2, w3⟩ wa hf hl hx hh wr (by omega)
        have va := wa (h - 1) (by omega) (1 + i) (by omega)
        have e1 : nI 1024 * nI h = nI (1024 * h) := pk_mul _ _
        have e2 : nI h - nI 1 = nI (h - 1) := nI_subn (by omega)
        have e3 : nI 1024 * nI (h - 1) = nI (1024 * (h - 1)) := pk_mul _ _
        have ei : 1 + (i + 1) = 1 + i + 1 := rfl
        refine ⟨gst N' 112 (1024 * h + (1 + i)) (if A (h - 1) (1 + i) then nI (lcm A f (D 0 0) l (12 - h) (1 + i)) else nI 1000000), ⟨fun k hk => by rw [gst_ne _ _ _ _ hk, u1 k hk], fun j hj => ?_, fun a ha1 ha2 hA1 => ?_⟩, ?_⟩
        · rw [gst_v, if_neg (by omega)]
          exact u2 j hj
        · rw [gst_v]
          by_cases e : a = 1 + i
          · rw [if_pos ⟨rfl, by omega⟩, ← e, if_pos hA1]
          · rw [if_neg (by omega)]
            exact u3 a ha1 (by omega) hA1
        · show f_X9_findLeast_h52_b F _ _ _ _ _ _ = _
          unfold f_X9_findLeast_h52_b
          generalize lcm A f (D 0 0) l (12 - h) (1 + i) = C at *
          cases c : A (h - 1) (1 + i)
          · rw [c] at va
            simp (disch := omega) only [pn_lt, pn_ltM, pl_ofN, ↓pl_m1, pl_lit, fa_litL, pn_bs, ck_n, ckh_n, ck_t, ckh_t, nI_add, nI_clamp, nI_ltI, nI_leI, nI_eq, m1_eq, m1_eq2, m1_lt, m1_le, m1_lt2, m1_le2, m1_m1, nI_m1, nI_subn, gb_n, Nat.add_zero, Nat.zero_add, Nat.zero_or, Nat.or_zero, nle_f, nle_t, nlt_f, nlt_t, neq_f, neq_t, Bool.false_eq_true, eq_self, if_true, if_false, ite_true, ite_false, and_true, true_and, and_false, false_and, decide_true, decide_false, Bool.and_true, Bool.true_and, Bool.and_false, Bool.false_and, Bool.or_false, Bool.false_or, Bool.or_true, Bool.true_or, Bool.not_true, Bool.not_false, not_true_eq_false, not_false_eq_true, e1, e2, e3, w2, z1, va, ei]
          · rw [c] at va
            simp (disch := omega) only [pn_lt, pn_ltM, pl_ofN, ↓pl_m1, pl_lit, fa_litL, pn_bs, ck_n, ckh_n, ck_t, ckh_t, nI_add, nI_clamp, nI_ltI, nI_leI, nI_eq, m1_eq, m1_eq2, m1_lt, m1_le, m1_lt2, m1_le2, m1_m1, nI_m1, nI_subn, gb_n, Nat.add_zero, Nat.zero_add, Nat.zero_or, Nat.or_zero, nle_f, nle_t, nlt_f, nlt_t, neq_f, neq_t, Bool.false_eq_true, eq_self, if_true, if_false, ite_true, ite_false, and_true, true_and, and_false, false_and, decide_true, decide_false, Bool.and_true, Bool.true_and, Bool.and_false, Bool.false_and, Bool.or_false, Bool.false_or, Bool.or_true, Bool.true_or, Bool.not_true, Bool.not_false, not_true_eq_false, not_false_eq_true, e1, e2, e3, w2, z1, va, ei, hb]) 1023 0 N F (by omega) (by omega) ⟨q1, fun _ _ => rfl, fun a h1 h2 => by omega⟩
      refine ⟨N', b4.trans ?_, b1, fun h' h1 h2 => ?_⟩
      · obtain ⟨n', en⟩ : ∃ n', F - 1023 = n' + 1 := ⟨F - 1024, by omega⟩
        rw [en]
        show f_X9_findLeast_h52_b F _ _ _ _ _ _ = _
        unfold f_X9_findLeast_h52_b
        simp (disch := omega) only [pn_lt, pn_ltM, pl_ofN, ↓pl_m1, pl_lit, fa_litL, pn_bs, ck_n, ckh_n, ck_t, ckh_t, nI_add, nI_clamp, nI_ltI, nI_leI, nI_eq, m1_eq, m1_eq2, m1_lt, m1_le, m1_lt2, m1_le2, m1_m1, nI_m1, nI_subn, gb_n, Nat.add_zero, Nat.zero_add, Nat.zero_or, Nat.or_zero, nle_f, nle_t, nlt_f, nlt_t, neq_f, neq_t, Bool.false_eq_true, eq_self, if_true, if_false, ite_true, ite_false, and_true, true_and, and_false, false_and, decide_true, decide_false, Bool.and_true, Bool.true_and, Bool.and_false, Bool.false_and, Bool.or_false, Bool.false_or, Bool.or_true, Bool.true_or, Bool.not_true, Bool.not_false, not_true_eq_false, not_false_eq_true, e4]
      · by_cases e : h' = h
        · subst e
          refine ⟨by rw [b2 _ (by omega)]; exact q3, fun _ a ha hA1 => ?_⟩
          by_cases e0 : a = 0
          · rw [e0, Nat.add_zero, b2 _ (by omega)]
            exact q3
          · rcases hA1 with hA1 | ⟨-, hA1⟩
            · omega
            · exact b3 a (by omega) (by omega) hA1
        · obtain ⟨y1, y2⟩ := q2 h' (by omega) h2
          exact ⟨by rw [b2 _ (by omega)]; exact y1, fun hl1 a ha hA1 => by rw [b2 _ (by omega)]; exact y2 hl1 a ha hA1⟩
    · refine ⟨N, ?_, q1, fun h' h1 h2 => ?_⟩
      · rw [eF]
        show f_X9_findLeast_h52_b _ _ _ _ _ _ _ = _
        unfold f_X9_findLeast_h52_b
        by_cases z2 : 0 < h
        · have z1 : l = 0 := by omega
          subst z1
          simp (disch := omega) only [pn_lt, pn_ltM, pl_ofN, ↓pl_m1, pl_lit, fa_litL, pn_bs, ck_n, ckh_n, ck_t, ckh_t, nI_add, nI_clamp, nI_ltI, nI_leI, nI_eq, m1_eq, m1_eq2, m1_lt, m1_le, m1_lt2, m1_le2, m1_m1, nI_m1, nI_subn, gb_n, Nat.add_zero, Nat.zero_add, Nat.zero_or, Nat.or_zero, nle_f, nle_t, nlt_f, nlt_t, neq_f, neq_t, Bool.false_eq_true, eq_self, if_true, if_false, ite_true, ite_false, and_true, true_and, and_false, false_and, decide_true, decide_false, Bool.and_true, Bool.true_and, Bool.and_false, Bool.false_and, Bool.or_false, Bool.false_or, Bool.or_true, Bool.true_or, Bool.not_true, Bool.not_false, not_true_eq_false, not_false_eq_true, pp2, e4]
        · simp (disch := omega) only [pn_lt, pn_ltM, pl_ofN, ↓pl_m1, pl_lit, fa_litL, pn_bs, ck_n, ckh_n, ck_t, ckh_t, nI_add, nI_clamp, nI_ltI, nI_leI, nI_eq, m1_eq, m1_eq2, m1_lt, m1_le, m1_lt2, m1_le2, m1_m1, nI_m1, nI_subn, gb_n, Nat.add_zero, Nat.zero_add, Nat.zero_or, Nat.or_zero, nle_f, nle_t, nlt_f, nlt_t, neq_f, neq_t, Bool.false_eq_true, eq_self, if_true, if_false, ite_true, ite_false, and_true, true_and, and_false, false_and, decide_true, decide_false, Bool.and_true, Bool.true_and, Bool.and_false, Bool.false_and, Bool.or_false, Bool.false_or, Bool.or_true, Bool.true_or, Bool.not_true, Bool.not_false, not_true_eq_false, not_false_eq_true, e4]
      · by_cases e : h' = h
        · subst e
          refine ⟨q3, fun hl1 a ha hA1 => ?_⟩
          rcases hA1 with hA1 | ⟨hA1, -⟩
          · omega
          · exact absurd ⟨hl1, hA1⟩ z
        · exact q2 h' (by omega) h2
  obtain ⟨N2, ⟨b1, b2, -⟩, b3⟩ := dn_inv (fun q c (N : gM) => f_X9_findLeast_h29 F (nI x) q (dn c) N) (fun c N => (∀ k, k ≠ 112 → N k = M k) ∧ (∀ h', c ≤ h' → h' ≤ 12 → lRow A f (D 0 0) l N h') ∧ c ≤ 12) (by
    rintro q c N ⟨u1, u2, u3⟩
    have hh : c < 12 := by omega
    obtain ⟨hp, ha⟩ := hPf N u1
    have hb := e9_best (w := 0) hF hW hp ha hf hl hx hh (u2 (c + 1) (by omega) (by omega)) (by omega)
    obtain ⟨N', t1, t2, t3⟩ := inner c (f_X9_findLeast_h29 F (nI x) q) (gst N 112 (1024 * c) (nI (lcm A f (D 0 0) l (12 - c) 0))) hh (fun k hk => by rw [gst_ne _ _ _ _ hk, u1 k hk]) (fun h' h1 h2 => by
      obtain ⟨y1, y2⟩ := u2 h' (by omega) h2
      exact ⟨by rw [gst_v, if_neg (by omega)]; exact y1, fun hl1 a ha hA1 => by rw [gst_v, if_neg (by omega)]; exact y2 hl1 a ha hA1⟩) (by rw [gst_v, if_pos ⟨rfl, rfl⟩])
    refine ⟨N', ⟨t2, t3, by omega⟩, ?_⟩
    show f_X9_findLeast_h29_b F _ _ _ _ = _
    unfold f_X9_findLeast_h29_b
    rw [dn_s]
    have e1 : nI 1024 * nI c = nI (1024 * c) := pk_mul _ _
    generalize lcm A f (D 0 0) l (12 - c) 0 = C at *
    simp (disch := omega) only [pn_lt, pn_ltM, pl_ofN, ↓pl_m1, pl_lit, fa_litL, pn_bs, ck_n, ckh_n, ck_t, ckh_t, nI_add, nI_clamp, nI_ltI, nI_leI, nI_eq, m1_eq, m1_eq2, m1_lt, m1_le, m1_lt2, m1_le2, m1_m1, nI_m1, nI_subn, gb_n, Nat.add_zero, Nat.zero_add, Nat.zero_or, Nat.or_zero, nle_f, nle_t, nlt_f, nlt_t, neq_f, neq_t, Bool.false_eq_true, eq_self, if_true, if_false, ite_true, ite_false, and_true, true_and, and_false, false_and, decide_true, decide_false, Bool.and_true, Bool.true_and, Bool.and_false, Bool.false_and, Bool.or_false, Bool.false_or, Bool.or_true, Bool.true_or, Bool.not_true, Bool.not_false, not_true_eq_false, not_false_eq_true, hb, e1, nI_lt0, t1]) 12 N1 F (by omega) ⟨a2, fun h' h1 h2 => by
      have : h' = 12 := by omega
      rw [this]; exact hr12, by omega⟩
  refine ⟨N2, ?_, fun h hh => b2 h (Nat.zero_le _) hh, b1⟩
  unfold f_X9_findLeast
  refine a3.trans ?_
  obtain ⟨n', en⟩ : ∃ n', F - 1024 = n' + 1 := ⟨F - 1025, by omega⟩
  rw [en]
  show f_X9_findLeast_h2_b F _ _ _ _ = _
  unfold f_X9_findLeast_h2_b
  rw [if_pos (by rw [show (1024 : Int32) = nI 1024 from rfl, nI_leI (by omega) (by omega)]; omega)]
  have e11 : (11 : Int32) = dn 12 := (dn_s 11).symm
  rw [e11]
  refine b3.trans ?_
  obtain ⟨n2, en2⟩ : ∃ n2, F - 12 = n2 + 1 := ⟨F - 13, by omega⟩
  rw [en2]
  show f_X9_findLeast_h29_b F _ _ _ _ = _
  unfold f_X9_findLeast_h29_b
  rw [dn_0, if_pos (show m1 < (0 : Int32) by decide +kernel)]
end EV
