/-! the text: scans -/
def scF (P : Nat → Bool) (tl : Nat) : Nat → Nat → Nat
  | 0, t => t
  | m + 1, t => if decide (t < tl) && P t then scF P tl m (t + 1) else t
def sc (P : Nat → Bool) (tl t : Nat) : Nat := scF P tl (tl - t) t
theorem sc_step {P : Nat → Bool} {tl t : Nat} (h : t < tl) (hp : P t = true) : sc P tl t = sc P tl (t + 1) := by
  unfold sc
  obtain ⟨m, e⟩ : ∃ m, tl - t = m + 1 := ⟨tl - t - 1, by omega⟩
  have e2 : tl - (t + 1) = m := by omega
  rw [e, e2]
  show (if decide (t < tl) && P t then scF P tl m (t + 1) else t) = _
  rw [decide_eq_true h, hp]
  rfl
theorem sc_stop {P : Nat → Bool} {tl t : Nat} (h : t < tl → P t = false) : sc P tl t = t := by
  unfold sc
  cases e : tl - t with
  | zero => rfl
  | succ m =>
    show (if decide (t < tl) && P t then scF P tl m (t + 1) else t) = _
    rw [h (by omega)]
    simp
theorem sc_all {P : Nat → Bool} {tl : Nat} : ∀ m t, tl - t = m → t ≤ tl → t ≤ sc P tl t ∧ sc P tl t ≤ tl ∧ (sc P tl t < tl → P (sc P tl t) = false) ∧ ∀ j, t ≤ j → j < sc P tl t → P j = true
  | 0, t, h, ht => by
    rw [sc_stop (fun q => by omega)]
    exact ⟨Nat.le_refl _, ht, fun q => by omega, fun j h1 h2 => by omega⟩
  | m + 1, t, h, ht => by
    cases hp : P t
    · rw [sc_stop (fun _ => hp)]
      exact ⟨Nat.le_refl _, ht, fun _ => hp, fun j h1 h2 => by omega⟩
    · rw [sc_step (by omega) hp]
      obtain ⟨a1, a2, a3, a4⟩ := sc_all (P := P) (tl := tl) m (t + 1) (by omega) (by omega)
      refine ⟨by omega, a2, a3, fun j h1 h2 => ?_⟩
      by_cases e : j = t
      · rw [e]; exact hp
      · exact a4 j (by omega) h2
theorem sc_ge (P : Nat → Bool) {tl t : Nat} (ht : t ≤ tl) : t ≤ sc P tl t := (sc_all (P := P) _ t rfl ht).1
theorem sc_le (P : Nat → Bool) {tl t : Nat} (ht : t ≤ tl) : sc P tl t ≤ tl := (sc_all (P := P) _ t rfl ht).2.1
theorem sc_end {P : Nat → Bool} {tl t : Nat} (ht : t ≤ tl) (h : sc P tl t < tl) : P (sc P tl t) = false := (sc_all (P := P) _ t rfl ht).2.2.1 h
theorem sc_in {P : Nat → Bool} {tl t j : Nat} (ht : t ≤ tl) (h1 : t ≤ j) (h2 : j < sc P tl t) : P j = true := (sc_all (P := P) _ t rfl ht).2.2.2 j h1 h2
theorem sc_sc {P : Nat → Bool} {tl t : Nat} (ht : t ≤ tl) : sc P tl (sc P tl t) = sc P tl t := sc_stop (fun h => sc_end ht h)
theorem sc_inv {σ ρ : Type} (P : Nat → Bool) (tl : Nat) (k : Nat → σ → Option ρ) (Inv : Nat → σ → Prop)
    (hs : ∀ n t s, t < tl → P t = true → Inv t s → ∃ s', Inv (t + 1) s' ∧ k (n + 1) s = k n s') :
    ∀ m t s n, tl - t = m → t ≤ tl → m < n → Inv t s → ∃ s' n', Inv (sc P tl t) s' ∧ k n s = k (n' + 1) s'
  | 0, t, s, n, h, ht, hn, hI => by
    rw [sc_stop (fun q => by omega)]
    exact ⟨s, n - 1, hI, by rw [show n - 1 + 1 = n by omega]⟩
  | m + 1, t, s, n, h, ht, hn, hI => by
    cases hp : P t
    · rw [sc_stop (fun _ => hp)]
      exact ⟨s, n - 1, hI, by rw [show n - 1 + 1 = n by omega]⟩
    · obtain ⟨n', rfl⟩ : ∃ n', n = n' + 1 := ⟨n - 1, by omega⟩
      obtain ⟨s1, h1, h2⟩ := hs n' t s (by omega) hp hI
      obtain ⟨s2, n2, h3, h4⟩ := sc_inv P tl k Inv hs m (t + 1) s1 n' (by omega) (by omega) (by omega) h1
      rw [sc_step (by omega) hp]
      exact ⟨s2, n2, h3, h2.trans h4⟩
/-- blanks, letters, figures -/
def blB (T : Nat → Nat) (t : Nat) : Bool := decide (T t = 32)
def leB (T : Nat → Nat) (t : Nat) : Bool := decide (97 ≤ T t) && decide (T t ≤ 122)
theorem leB_f {T : Nat → Nat} {x : Nat} (h : leB T x = false) : T x < 97 ∨ 122 < T x := by
  unfold leB at h
  rw [Bool.and_eq_false_iff, decide_eq_false_iff_not, decide_eq_false_iff_not] at h
  omega
def fiB (T : Nat → Nat) (t : Nat) : Bool := decide (48 ≤ T t) && decide (T t ≤ 57)
def xT8 (T : Nat → Nat) (tl : Nat) (M : gM) : Prop := M 1 1 = nI tl ∧ ∀ i, i < tl → M 2 i = nI (T i)
def xT9 (T : Nat → Nat) (tl : Nat) (M : gM) : Prop := M 95 14 = nI tl ∧ ∀ i, i < tl → M 109 i = nI (T i)
def xTb (T : Nat → Nat) (tl : Nat) : Prop := tl ≤ 400 ∧ ∀ i, i < tl → T i ≤ 255
section EV
variable {T : Nat → Nat} {tl F : Nat} {M : gM}
theorem e6_byteAt (hb : xTb T tl) (h8 : xT8 T tl M) {i : Nat} (hi : i < tl) : f_X6_byteAt (nI i) M = some (nI (T i)) := by
  have h400 := hb.1
  unfold f_X6_byteAt
  have e := h8.2 i hi
  simp (disch := omega) only [pn_lt, pn_ltM, pl_ofN, ↓pl_m1, pl_lit, fa_litL, pn_bs, ck_n, ckh_n, ck_t, ckh_t, nI_add, nI_clamp, nI_ltI, nI_leI, nI_eq, m1_eq, m1_eq2, m1_lt, m1_le, m1_lt2, m1_le2, m1_m1, nI_m1, nI_subn, gb_n, Nat.add_zero, Nat.zero_add, Nat.zero_or, Nat.or_zero, nle_f, nle_t, nlt_f, nlt_t, neq_f, neq_t, Bool.false_eq_true, eq_self, if_true, if_false, ite_true, ite_false, and_true, true_and, and_false, false_and, decide_true, decide_false, Bool.and_true, Bool.true_and, Bool.and_false, Bool.false_and, Bool.or_false, Bool.false_or, Bool.or_true, Bool.true_or, Bool.not_true, Bool.not_false, not_true_eq_false, not_false_eq_true, h8.1, e]
theorem e6_end (hb : xTb T tl) (h8 : xT8 T tl M) : f_X6_byteAt (nI tl) M = some m1 := by
  have h400 := hb.1
  unfold f_X6_byteAt
  simp (disch := omega) only [pn_lt, pn_ltM, pl_ofN, ↓pl_m1, pl_lit, fa_litL, pn_bs, ck_n, ckh_n, ck_t, ckh_t, nI_add, nI_clamp, nI_ltI, nI_leI, nI_eq, m1_eq, m1_eq2, m1_lt, m1_le, m1_lt2, m1_le2, m1_m1, nI_m1, nI_subn, gb_n, Nat.add_zero, Nat.zero_add, Nat.zero_or, Nat.or_zero, nle_f, nle_t, nlt_f, nlt_t, neq_f, neq_t, Bool.false_eq_true, eq_self, if_true, if_false, ite_true, ite_false, and_true, true_and, and_false, false_and, decide_true, decide_false, Bool.and_true, Bool.true_and, Bool.and_false, Bool.false_and, Bool.or_false, Bool.false_or, Bool.or_true, Bool.true_or, Bool.not_true, Bool.not_false, not_true_eq_false, not_false_eq_true, h8.1]
theorem xT8_25 {N : gM} (h8 : xT8 T tl M) (h : ∀ k, k ≠ 25 → N k = M k) : xT8 T tl N := by
  refine ⟨by rw [h _ (by omega)]; exact h8.1, fun i hi => by rw [h _ (by omega)]; exact h8.2 i hi⟩
theorem e3_skip (hF : 4000 ≤ F) (hb : xTb T tl) (h8 : xT8 T tl M) {t : Nat} (ht : t ≤ tl) (hM : M 25 2 = nI t) : ∃ M', f_X3_skipBlanks F M = some M' ∧ (∀ k, k ≠ 25 → M' k = M k) ∧ (∀ j, j ≠ 2 → M' 25 j = M 25 j) ∧ M' 25 2 = nI (sc (blB T) tl t) := by
  have h400 := hb.1
  obtain ⟨s, n', ⟨h1, h2, h3⟩, h4⟩ := sc_inv (blB T) tl (fun n (N : gM) => f_X3_skipBlanks_h0 F n N) (fun t N => (∀ k, k ≠ 25 → N k = M k) ∧ (∀ j, j ≠ 2 → N 25 j = M 25 j) ∧ N 25 2 = nI t) (by
    rintro n t N ht hp ⟨q1, q2, q3⟩
    refine ⟨gst N 25 2 (nI (t + 1)), ⟨fun k hk => ?_, fun j hj => ?_, ?_⟩, ?_⟩
    · rw [gst_ne _ _ _ _ hk, q1 k hk]
    · rw [gst_v, if_neg (by omega), q2 j hj]
    · rw [gst_v, if_pos ⟨rfl, rfl⟩]
    · show f_X3_skipBlanks_h0_b _ _ _ = _
      unfold f_X3_skipBlanks_h0_b
      have e0 := (xT8_25 h8 q1).1
      have e1 := e6_byteAt hb (xT8_25 h8 q1) ht
      have e2 : T t = 32 := of_decide_eq_true hp
      rw [e2] at e1
      simp (disch := omega) only [pn_lt, pn_ltM, pl_ofN, ↓pl_m1, pl_lit, fa_litL, pn_bs, ck_n, ckh_n, ck_t, ckh_t, nI_add, nI_clamp, nI_ltI, nI_leI, nI_eq, m1_eq, m1_eq2, m1_lt, m1_le, m1_lt2, m1_le2, m1_m1, nI_m1, nI_subn, gb_n, Nat.add_zero, Nat.zero_add, Nat.zero_or, Nat.or_zero, nle_f, nle_t, nlt_f, nlt_t, neq_f, neq_t, Bool.false_eq_true, eq_self, if_true, if_false, ite_true, ite_false, and_true, true_and, and_false, false_and, decide_true, decide_false, Bool.and_true, Bool.true_and, Bool.and_false, Bool.false_and, Bool.or_false, Bool.false_or, Bool.or_true, Bool.true_or, Bool.not_true, Bool.not_false, not_true_eq_false, not_false_eq_true, e0, e1, q3]) (tl - t) t M F rfl ht (by omega) ⟨fun _ _ => rfl, fun _ _ => rfl, hM⟩
  refine ⟨s, ?_, h1, h2, h3⟩
  unfold f_X3_skipBlanks
  refine h4.trans ?_
  show f_X3_skipBlanks_h0_b _ _ _ = _
  unfold f_X3_skipBlanks_h0_b
  have e0 := (xT8_25 h8 h1).1
  have hle := sc_le (blB T) ht
  by_cases c : sc (blB T) tl t < tl
  · have e1 := e6_byteAt hb (xT8_25 h8 h1) c
    have e2 := sc_end ht c
    have e3 : ¬ T (sc (blB T) tl t) = 32 := of_decide_eq_false e2
    have e4 := hb.2 _ c
    simp (disch := omega) only [pn_lt, pn_ltM, pl_ofN, ↓pl_m1, pl_lit, fa_litL, pn_bs, ck_n, ckh_n, ck_t, ckh_t, nI_add, nI_clamp, nI_ltI, nI_leI, nI_eq, m1_eq, m1_eq2, m1_lt, m1_le, m1_lt2, m1_le2, m1_m1, nI_m1, nI_subn, gb_n, Nat.add_zero, Nat.zero_add, Nat.zero_or, Nat.or_zero, nle_f, nle_t, nlt_f, nlt_t, neq_f, neq_t, Bool.false_eq_true, eq_self, if_true, if_false, ite_true, ite_false, and_true, true_and, and_false, false_and, decide_true, decide_false, Bool.and_true, Bool.true_and, Bool.and_false, Bool.false_and, Bool.or_false, Bool.false_or, Bool.or_true, Bool.true_or, Bool.not_true, Bool.not_false, not_true_eq_false, not_false_eq_true, e0, e1, h3]
  · simp (disch := omega) only [pn_lt, pn_ltM, pl_ofN, ↓pl_m1, pl_lit, fa_litL, pn_bs, ck_n, ckh_n, ck_t, ckh_t, nI_add, nI_clamp, nI_ltI, nI_leI, nI_eq, m1_eq, m1_eq2, m1_lt, m1_le, m1_lt2, m1_le2, m1_m1, nI_m1, nI_subn, gb_n, Nat.add_zero, Nat.zero_add, Nat.zero_or, Nat.or_zero, nle_f, nle_t, nlt_f, nlt_t, neq_f, neq_t, Bool.false_eq_true, eq_self, if_true, if_false, ite_true, ite_false, and_true, true_and, and_false, false_and, decide_true, decide_false, Bool.and_true, Bool.true_and, Bool.and_false, Bool.false_and, Bool.or_false, Bool.false_or, Bool.or_true, Bool.true_or, Bool.not_true, Bool.not_false, not_true_eq_false, not_false_eq_true, e0, h3]
theorem xT9_95 {N : gM} (h9 : xT9 T tl M) (h : ∀ k, k ≠ 95 → N k = M k) (h2 : ∀ j, j < 15 → N 95 j = M 95 j) : xT9 T tl N := by
  refine ⟨by rw [h2 _ (by omega)]; exact h9.1, fun i hi => by rw [h _ (by omega)]; exact h9.2 i hi⟩
theorem e9_here (hF : 4000 ≤ F) (hb : xTb T tl) (h9 : xT9 T tl M) {t : Nat} (ht : t ≤ tl) (hM : M 95 15 = nI t) : ∃ M', f_X9_here F M = some (if sc (blB T) tl t < tl then nI (T (sc (blB T) tl t)) else m1, M') ∧ (∀ k, k ≠ 95 → M' k = M k) ∧ (∀ j, j ≠ 15 → M' 95 j = M 95 j) ∧ M' 95 15 = nI (sc (blB T) tl t) := by
  have h400 := hb.1
  obtain ⟨s, n', ⟨h1, h2, h3⟩, h4⟩ := sc_inv (blB T) tl (fun n (N : gM) => f_X9_here_h0 F n N) (fun t N => (∀ k, k ≠ 95 → N k = M k) ∧ (∀ j, j ≠ 15 → N 95 j = M 95 j) ∧ N 95 15 = nI t) (by
    rintro n t N ht hp ⟨q1, q2, q3⟩
    refine ⟨gst N 95 15 (nI (t + 1)), ⟨fun k hk => ?_, fun j hj => ?_, ?_⟩, ?_⟩
    · rw [gst_ne _ _ _ _ hk, q1 k hk]
    · rw [gst_v, if_neg (by omega), q2 j hj]
    · rw [gst_v, if_pos ⟨rfl, rfl⟩]
    · show f_X9_here_h0_b _ _ _ = _
      unfold f_X9_here_h0_b
      have e0 := xT9_95 h9 q1 (fun j hj => q2 j (by omega))
      have e1 := e0.2 t ht
      have e2 : T t = 32 := of_decide_eq_true hp
      rw [e2] at e1
      have e3 := e0.1
      simp (disch := omega) only [pn_lt, pn_ltM, pl_ofN, ↓pl_m1, pl_lit, fa_litL, pn_bs, ck_n, ckh_n, ck_t, ckh_t, nI_add, nI_clamp, nI_ltI, nI_leI, nI_eq, m1_eq, m1_eq2, m1_lt, m1_le, m1_lt2, m1_le2, m1_m1, nI_m1, nI_subn, gb_n, Nat.add_zero, Nat.zero_add, Nat.zero_or, Nat.or_zero, nle_f, nle_t, nlt_f, nlt_t, neq_f, neq_t, Bool.false_eq_true, eq_self, if_true, if_false, ite_true, ite_false, and_true, true_and, and_false, false_and, decide_true, decide_false, Bool.and_true, Bool.true_and, Bool.and_false, Bool.false_and, Bool.or_false, Bool.false_or, Bool.or_true, Bool.true_or, Bool.not_true, Bool.not_false, not_true_eq_false, not_false_eq_true, e3, e1, q3]) (tl - t) t M F rfl ht (by omega) ⟨fun _ _ => rfl, fun _ _ => rfl, hM⟩
  refine ⟨s, ?_, h1, h2, h3⟩
  unfold f_X9_here
  refine h4.trans ?_
  show f_X9_here_h0_b _ _ _ = _
  unfold f_X9_here_h0_b f_X9_here_b38
  have e0 := xT9_95 h9 h1 (fun j hj => h2 j (by omega))
  have e5 := e0.1
  have hle := sc_le (blB T) ht
  by_cases c : sc (blB T) tl t < tl
  · have e1 := e0.2 _ c
    have e2 := sc_end ht c
    have e3 : ¬ T (sc (blB T) tl t) = 32 := of_decide_eq_false e2
    have e4 := hb.2 _ c
    simp (disch := omega) only [pn_lt, pn_ltM, pl_ofN, ↓pl_m1, pl_lit, fa_litL, pn_bs, ck_n, ckh_n, ck_t, ckh_t, nI_add, nI_clamp, nI_ltI, nI_leI, nI_eq, m1_eq, m1_eq2, m1_lt, m1_le, m1_lt2, m1_le2, m1_m1, nI_m1, nI_subn, gb_n, Nat.add_zero, Nat.zero_add, Nat.zero_or, Nat.or_zero, nle_f, nle_t, nlt_f, nlt_t, neq_f, neq_t, Bool.false_eq_true, eq_self, if_true, if_false, ite_true, ite_false, and_true, true_and, and_false, false_and, decide_true, decide_false, Bool.and_true, Bool.true_and, Bool.and_false, Bool.false_and, Bool.or_false, Bool.false_or, Bool.or_true, Bool.true_or, Bool.not_true, Bool.not_false, not_true_eq_false, not_false_eq_true, e5, e1, h3]
  · simp (disch := omega) only [pn_lt, pn_ltM, pl_ofN, ↓pl_m1, pl_lit, fa_litL, pn_bs, ck_n, ckh_n, ck_t, ckh_t, nI_add, nI_clamp, nI_ltI, nI_leI, nI_eq, m1_eq, m1_eq2, m1_lt, m1_le, m1_lt2, m1_le2, m1_m1, nI_m1, nI_subn, gb_n, Nat.add_zero, Nat.zero_add, Nat.zero_or, Nat.or_zero, nle_f, nle_t, nlt_f, nlt_t, neq_f, neq_t, Bool.false_eq_true, eq_self, if_true, if_false, ite_true, ite_false, and_true, true_and, and_false, false_and, decide_true, decide_false, Bool.and_true, Bool.true_and, Bool.and_false, Bool.false_and, Bool.or_false, Bool.false_or, Bool.or_true, Bool.true_or, Bool.not_true, Bool.not_false, not_true_eq_false, not_false_eq_true, e5, h3]
theorem e3_readWord (hF : 4000 ≤ F) (hb : xTb T tl) (h8 : xT8 T tl M) {t : Nat} (ht : t ≤ tl) (hM : M 25 2 = nI t) : ∃ M', f_X3_readWord F M = some M' ∧ (∀ k, k ≠ 25 → M' k = M k) ∧ (∀ j, j ≠ 2 → j ≠ 3 → M' 25 j = M 25 j) ∧ M' 25 3 = nI (sc (blB T) tl t) ∧ M' 25 2 = nI (sc (leB T) tl (sc (blB T) tl t)) := by
  have h400 := hb.1
  obtain ⟨M1, r1, r2, r3, r4⟩ := e3_skip hF hb h8 ht hM
  have hs := sc_le (blB T) ht
  obtain ⟨s, n', ⟨h1, h2, h5, h3⟩, h4⟩ := sc_inv (leB T) tl (fun n (N : gM) => f_X3_readWord_h12 F n N) (fun t' N => (∀ k, k ≠ 25 → N k = M k) ∧ (∀ j, j ≠ 2 → j ≠ 3 → N 25 j = M 25 j) ∧ N 25 3 = nI (sc (blB T) tl t) ∧ N 25 2 = nI t') (by
    rintro n t' N ht' hp ⟨q1, q2, q5, q3⟩
    refine ⟨gst N 25 2 (nI (t' + 1)), ⟨fun k hk => ?_, fun j hj hj3 => ?_, ?_, ?_⟩, ?_⟩
    · rw [gst_ne _ _ _ _ hk, q1 k hk]
    · rw [gst_v, if_neg (by omega), q2 j hj hj3]
    · rw [gst_v, if_neg (by omega), q5]
    · rw [gst_v, if_pos ⟨rfl, rfl⟩]
    · show f_X3_readWord_h12_b _ _ _ = _
      unfold f_X3_readWord_h12_b f_X6_isLetter
      have e0 := (xT8_25 h8 q1).1
      have e1 := e6_byteAt hb (xT8_25 h8 q1) ht'
      have e4 := hb.2 _ ht'
      unfold leB at hp
      rw [Bool.and_eq_true, decide_eq_true_iff, decide_eq_true_iff] at hp
      simp (disch := omega) only [pn_lt, pn_ltM, pl_ofN, ↓pl_m1, pl_lit, fa_litL, pn_bs, ck_n, ckh_n, ck_t, ckh_t, nI_add, nI_clamp, nI_ltI, nI_leI, nI_eq, m1_eq, m1_eq2, m1_lt, m1_le, m1_lt2, m1_le2, m1_m1, nI_m1, nI_subn, gb_n, Nat.add_zero, Nat.zero_add, Nat.zero_or, Nat.or_zero, nle_f, nle_t, nlt_f, nlt_t, neq_f, neq_t, Bool.false_eq_true, eq_self, if_true, if_false, ite_true, ite_false, and_true, true_and, and_false, false_and, decide_true, decide_false, Bool.and_true, Bool.true_and, Bool.and_false, Bool.false_and, Bool.or_false, Bool.false_or, Bool.or_true, Bool.true_or, Bool.not_true, Bool.not_false, not_true_eq_false, not_false_eq_true, e0, e1, q3]) (tl - sc (blB T) tl t) (sc (blB T) tl t) (gst M1 25 3 (nI (sc (blB T) tl t))) F rfl hs (by omega) ⟨fun k hk => by rw [gst_ne _ _ _ _ hk, r2 k hk], fun j h2 h3 => by rw [gst_v, if_neg (by omega), r3 j h2], by rw [gst_v, if_pos ⟨rfl, rfl⟩], by rw [gst_v, if_neg (by omega), r4]⟩
  refine ⟨s, ?_, h1, h2, h5, h3⟩
  unfold f_X3_readWord
  rw [r1, pn_bs, pn_ltM, r4]
  refine h4.trans ?_
  show f_X3_readWord_h12_b _ _ _ = _
  unfold f_X3_readWord_h12_b f_X6_isLetter
  have e0 := (xT8_25 h8 h1).1
  have hle := sc_le (leB T) hs
  by_cases c : sc (leB T) tl (sc (blB T) tl t) < tl
  · have e1 := e6_byteAt hb (xT8_25 h8 h1) c
    have e2 := sc_end hs c
    have e4 := hb.2 _ c
    generalize sc (leB T) tl (sc (blB T) tl t) = x at *
    have e2' := leB_f e2
    by_cases e6 : T x < 97
    · simp (disch := omega) only [pn_lt, pn_ltM, pl_ofN, ↓pl_m1, pl_lit, fa_litL, pn_bs, ck_n, ckh_n, ck_t, ckh_t, nI_add, nI_clamp, nI_ltI, nI_leI, nI_eq, m1_eq, m1_eq2, m1_lt, m1_le, m1_lt2, m1_le2, m1_m1, nI_m1, nI_subn, gb_n, Nat.add_zero, Nat.zero_add, Nat.zero_or, Nat.or_zero, nle_f, nle_t, nlt_f, nlt_t, neq_f, neq_t, Bool.false_eq_true, eq_self, if_true, if_false, ite_true, ite_false, and_true, true_and, and_false, false_and, decide_true, decide_false, Bool.and_true, Bool.true_and, Bool.and_false, Bool.false_and, Bool.or_false, Bool.false_or, Bool.or_true, Bool.true_or, Bool.not_true, Bool.not_false, not_true_eq_false, not_false_eq_true, e0, e1, h3]
    · simp (disch := omega) only [pn_lt, pn_ltM, pl_ofN, ↓pl_m1, pl_lit, fa_litL, pn_bs, ck_n, ckh_n, ck_t, ckh_t, nI_add, nI_clamp, nI_ltI, nI_leI, nI_eq, m1_eq, m1_eq2, m1_lt, m1_le, m1_lt2, m1_le2, m1_m1, nI_m1, nI_subn, gb_n, Nat.add_zero, Nat.zero_add, Nat.zero_or, Nat.or_zero, nle_f, nle_t, nlt_f, nlt_t, neq_f, neq_t, Bool.false_eq_true, eq_self, if_true, if_false, ite_true, ite_false, and_true, true_and, and_false, false_and, decide_true, decide_false, Bool.and_true, Bool.true_and, Bool.and_false, Bool.false_and, Bool.or_false, Bool.false_or, Bool.or_true, Bool.true_or, Bool.not_true, Bool.not_false, not_true_eq_false, not_false_eq_true, e0, e1, h3]
  · simp (disch := omega) only [pn_lt, pn_ltM, pl_ofN, ↓pl_m1, pl_lit, fa_litL, pn_bs, ck_n, ckh_n, ck_t, ckh_t, nI_add, nI_clamp, nI_ltI, nI_leI, nI_eq, m1_eq, m1_eq2, m1_lt, m1_le, m1_lt2, m1_le2, m1_m1, nI_m1, nI_subn, gb_n, Nat.add_zero, Nat.zero_add, Nat.zero_or, Nat.or_zero, nle_f, nle_t, nlt_f, nlt_t, neq_f, neq_t, Bool.false_eq_true, eq_self, if_true, if_false, ite_true, ite_false, and_true, true_and, and_false, false_and, decide_true, decide_false, Bool.and_true, Bool.true_and, Bool.and_false, Bool.false_and, Bool.or_false, Bool.false_or, Bool.or_true, Bool.true_or, Bool.not_true, Bool.not_false, not_true_eq_false, not_false_eq_true, e0, h3]
theorem e9_takeWord (hF : 4000 ≤ F) (hb : xTb T tl) (h9 : xT9 T tl M) {t : Nat} (ht : t ≤ tl) (hM : M 95 15 = nI t) : ∃ M', f_X9_takeWord F M = some M' ∧ (∀ k, k ≠ 95 → M' k = M k) ∧ (∀ j, j ≠ 15 → j ≠ 16 → j ≠ 17 → M' 95 j = M 95 j) ∧ M' 95 16 = nI (sc (blB T) tl t) ∧ M' 95 15 = nI (sc (leB T) tl (sc (blB T) tl t)) ∧ M' 95 17 = nI (sc (leB T) tl (sc (blB T) tl t) - sc (blB T) tl t) := by
  have h400 := hb.1
  obtain ⟨M1, r1, r2, r3, r4⟩ := e9_here hF hb h9 ht hM
  have hs := sc_le (blB T) ht
  obtain ⟨s, n', ⟨h1, h2, h5, h3⟩, h4⟩ := sc_inv (leB T) tl (fun n (N : gM) => f_X9_takeWord_h13 F n N) (fun t' N => (∀ k, k ≠ 95 → N k = M k) ∧ (∀ j, j ≠ 15 → j ≠ 16 → j ≠ 17 → N 95 j = M 95 j) ∧ N 95 16 = nI (sc (blB T) tl t) ∧ N 95 15 = nI t') (by
    rintro n t' N ht' hp ⟨q1, q2, q5, q3⟩
    refine ⟨gst N 95 15 (nI (t' + 1)), ⟨fun k hk => ?_, fun j hj hj3 hj4 => ?_, ?_, ?_⟩, ?_⟩
    · rw [gst_ne _ _ _ _ hk, q1 k hk]
    · rw [gst_v, if_neg (by omega), q2 j hj hj3 hj4]
    · rw [gst_v, if_neg (by omega), q5]
    · rw [gst_v, if_pos ⟨rfl, rfl⟩]
    · show f_X9_takeWord_h13_b _ _ _ = _
      unfold f_X9_takeWord_h13_b
      have e0 := xT9_95 h9 q1 (fun j hj => q2 j (by omega) (by omega) (by omega))
      have e1 := e0.2 _ ht'
      have e3 := e0.1
      have e4 := hb.2 _ ht'
      unfold leB at hp
      rw [Bool.and_eq_true, decide_eq_true_iff, decide_eq_true_iff] at hp
      simp (disch := omega) only [pn_lt, pn_ltM, pl_ofN, ↓pl_m1, pl_lit, fa_litL, pn_bs, ck_n, ckh_n, ck_t, ckh_t, nI_add, nI_clamp, nI_ltI, nI_leI, nI_eq, m1_eq, m1_eq2, m1_lt, m1_le, m1_lt2, m1_le2, m1_m1, nI_m1, nI_subn, gb_n, Nat.add_zero, Nat.zero_add, Nat.zero_or, Nat.or_zero, nle_f, nle_t, nlt_f, nlt_t, neq_f, neq_t, Bool.false_eq_true, eq_self, if_true, if_false, ite_true, ite_false, and_true, true_and, and_false, false_and, decide_true, decide_false, Bool.and_true, Bool.true_and, Bool.and_false, Bool.false_and, Bool.or_false, Bool.false_or, Bool.or_true, Bool.true_or, Bool.not_true, Bool.not_false, not_true_eq_false, not_false_eq_true, e3, e1, q3, e9_inL]) (tl - sc (blB T) tl t) (sc (blB T) tl t) (gst M1 95 16 (nI (sc (blB T) tl t))) F rfl hs (by omega) ⟨fun k hk => by rw [gst_ne _ _ _ _ hk, r2 k hk], fun j h2 h3 h4 => by rw [gst_v, if_neg (by omega), r3 j h2], by rw [gst_v, if_pos ⟨rfl, rfl⟩], by rw [gst_v, if_neg (by omega), r4]⟩
  have hge := sc_ge (leB T) hs
  have hle := sc_le (leB T) hs
  refine ⟨gst s 95 17 (nI (sc (leB T) tl (sc (blB T) tl t) - sc (blB T) tl t)), ?_, fun k hk => by rw [gst_ne _ _ _ _ hk, h1 k hk], fun j a1 a2 a3 => by rw [gst_v, if_neg (by omega), h2 j a1 a2 a3], by rw [gst_v, if_neg (by omega), h5], by rw [gst_v, if_neg (by omega), h3], by rw [gst_v, if_pos ⟨rfl, rfl⟩]⟩
  unfold f_X9_takeWord
  rw [r1, pn_bs, pn_lt, pn_ltM]
  dsimp only
  rw [r4]
  refine h4.trans ?_
  show f_X9_takeWord_h13_b _ _ _ = _
  unfold f_X9_takeWord_h13_b f_X9_takeWord_b59
  have e0 := xT9_95 h9 h1 (fun j hj => h2 j (by omega) (by omega) (by omega))
  have e5 := e0.1
  by_cases c : sc (leB T) tl (sc (blB T) tl t) < tl
  · have e1 := e0.2 _ c
    have e2 := sc_end hs c
    have e4 := hb.2 _ c
    generalize sc (leB T) tl (sc (blB T) tl t) = x at *
    have e2' := leB_f e2
    have e6 : (97 ≤ T x ∧ T x ≤ 122) = False := eq_false (by omega)
    simp (disch := omega) only [pn_lt, pn_ltM, pl_ofN, ↓pl_m1, pl_lit, fa_litL, pn_bs, ck_n, ckh_n, ck_t, ckh_t, nI_add, nI_clamp, nI_ltI, nI_leI, nI_eq, m1_eq, m1_eq2, m1_lt, m1_le, m1_lt2, m1_le2, m1_m1, nI_m1, nI_subn, gb_n, Nat.add_zero, Nat.zero_add, Nat.zero_or, Nat.or_zero, nle_f, nle_t, nlt_f, nlt_t, neq_f, neq_t, Bool.false_eq_true, eq_self, if_true, if_false, ite_true, ite_false, and_true, true_and, and_false, false_and, decide_true, decide_false, Bool.and_true, Bool.true_and, Bool.and_false, Bool.false_and, Bool.or_false, Bool.false_or, Bool.or_true, Bool.true_or, Bool.not_true, Bool.not_false, not_true_eq_false, not_false_eq_true, e5, e1, h3, h5, e9_inL, e6]
  · simp (disch := omega) only [pn_lt, pn_ltM, pl_ofN, ↓pl_m1, pl_lit, fa_litL, pn_bs, ck_n, ckh_n, ck_t, ckh_t, nI_add, nI_clamp, nI_ltI, nI_leI, nI_eq, m1_eq, m1_eq2, m1_lt, m1_le, m1_lt2, m1_le2, m1_m1, nI_m1, nI_subn, gb_n, Nat.add_zero, Nat.zero_add, Nat.zero_or, Nat.or_zero, nle_f, nle_t, nlt_f, nlt_t, neq_f, neq_t, Bool.false_eq_true, eq_self, if_true, if_false, ite_true, ite_false, and_true, true_and, and_false, false_and, decide_true, decide_false, Bool.and_true, Bool.true_and, Bool.and_false, Bool.false_and, Bool.or_false, Bool.false_or, Bool.or_true, Bool.true_or, Bool.not_true, Bool.not_false, not_true_eq_false, not_false_eq_true, e5, h3, h5]
end EV
