/-! pure basics: memory, loops -/
/-- rows that simp must not take as rfl: else the kernel compares what stands inside -/
theorem pn_bs {α β : Type} (a : α) (f : α → Option β) : (some a).bind f = f a := by
  have e := congrArg id (rfl : f a = f a)
  exact e
theorem pn_lt {α β : Type} (e : α) (f : α → β) : lt_ e f = f e := by
  have h := congrArg id (rfl : f e = f e)
  exact h
theorem pn_ltM {β : Type} (e : gM) (f : gM → β) : ltM e f = f e := by
  have h := congrArg id (rfl : f e = f e)
  exact h
def m1 : Int32 := -1
theorem pl_m1 : (-1 : Int32) = m1 := rfl
theorem pl_ofN (n : Nat) : Int32.ofNat n = nI n := rfl
theorem m1_eq {n : Nat} (h : n < 2 ^ 31) : (nI n = m1) ↔ False := ⟨fun q => nI_ne_m1 h q, False.elim⟩
theorem m1_eq2 {n : Nat} (h : n < 2 ^ 31) : (m1 = nI n) ↔ False := ⟨fun q => nI_ne_m1 h q.symm, False.elim⟩
theorem m1_toInt : m1.toInt = -1 := by decide +kernel
theorem m1_lt {n : Nat} (h : n < 2 ^ 31) : (m1 < nI n) ↔ True := by
  rw [fa_lt, m1_toInt, nI_toInt h]
  exact ⟨fun _ => trivial, fun _ => by omega⟩
theorem m1_le {n : Nat} (h : n < 2 ^ 31) : (m1 ≤ nI n) ↔ True := by
  rw [fa_le, m1_toInt, nI_toInt h]
  exact ⟨fun _ => trivial, fun _ => by omega⟩
theorem m1_lt2 {n : Nat} (h : n < 2 ^ 31) : (nI n < m1) ↔ False := by
  rw [fa_lt, m1_toInt, nI_toInt h]
  exact ⟨fun _ => by omega, False.elim⟩
theorem m1_le2 {n : Nat} (h : n < 2 ^ 31) : (nI n ≤ m1) ↔ False := by
  rw [fa_le, m1_toInt, nI_toInt h]
  exact ⟨fun _ => by omega, False.elim⟩
theorem m1_m1 (n : Nat) : nI (n + 1) + m1 = nI n := pk_m1 n
theorem gb_n {n : Nat} (h : n ≤ 1) : gb (nI n) = true := by
  rcases (by omega : n = 0 ∨ n = 1) with h | h <;> subst h <;> decide +kernel
theorem gst_v (M : gM) (a i : Nat) (v : Int32) (k j : Nat) : gst M a i v k j = if k = a ∧ j = i then v else M k j := by
  unfold gst upd
  by_cases h : k = a
  · subst h
    by_cases h2 : j = i
    · simp [h2]
    · simp [h2]
  · simp [h]
theorem nle_f {a b : Nat} (h : b < a) : (a ≤ b) = False := eq_false (by omega)
theorem nle_t {a b : Nat} (h : a ≤ b) : (a ≤ b) = True := eq_true h
theorem nlt_f {a b : Nat} (h : b ≤ a) : (a < b) = False := eq_false (by omega)
theorem nlt_t {a b : Nat} (h : a < b) : (a < b) = True := eq_true h
theorem neq_f {a b : Nat} (h : a ≠ b) : (a = b) = False := eq_false h
theorem neq_t {a b : Nat} (h : a = b) : (a = b) = True := eq_true h
/-- an upward loop without a way out -/
theorem up_inv {σ ρ : Type} (k : Nat → Nat → σ → Option ρ) (N : Nat) (Inv : Nat → σ → Prop)
    (hs : ∀ n i s, i < N → Inv i s → ∃ s', Inv (i + 1) s' ∧ k (n + 1) i s = k n (i + 1) s') :
    ∀ m i s n, i + m = N → m ≤ n → Inv i s → ∃ s', Inv N s' ∧ k n i s = k (n - m) N s' := by
  intro m
  induction m with
  | zero =>
    intro i s n h1 _ h3
    have e : i = N := by omega
    subst e
    exact ⟨s, h3, rfl⟩
  | succ m ih =>
    intro i s n h1 h2 h3
    obtain ⟨n', rfl⟩ : ∃ n', n = n' + 1 := ⟨n - 1, by omega⟩
    obtain ⟨s1, h4, h5⟩ := hs n' i s (by omega) h3
    obtain ⟨s2, h6, h7⟩ := ih (i + 1) s1 n' (by omega) (by omega) h4
    refine ⟨s2, h6, ?_⟩
    rw [h5, h7]
    congr 1
    omega
/-- an upward loop -/
theorem up_loop {σ ρ : Type} (k : Nat → Nat → σ → Option ρ) (N : Nat) (Inv : Nat → σ → Prop) (Post : ρ → Prop)
    (hs : ∀ n i s, i < N → Inv i s → (∃ s', Inv (i + 1) s' ∧ k (n + 1) i s = k n (i + 1) s') ∨ ∃ r, Post r ∧ k (n + 1) i s = some r)
    (he : ∀ n s, Inv N s → ∃ r, Post r ∧ k (n + 1) N s = some r) :
    ∀ m i s n, i + m = N → m < n → Inv i s → ∃ r, Post r ∧ k n i s = some r := by
  intro m
  induction m with
  | zero =>
    intro i s n h1 h2 h3
    have e : i = N := by omega
    subst e
    obtain ⟨n', rfl⟩ : ∃ n', n = n' + 1 := ⟨n - 1, by omega⟩
    exact he n' s h3
  | succ m ih =>
    intro i s n h1 h2 h3
    obtain ⟨n', rfl⟩ : ∃ n', n = n' + 1 := ⟨n - 1, by omega⟩
    rcases hs n' i s (by omega) h3 with ⟨s1, h4, h5⟩ | ⟨r, h4, h5⟩
    · rw [h5]
      exact ih (i + 1) s1 n' (by omega) (by omega) h4
    · exact ⟨r, h4, h5⟩
/-- the counter of a downward loop: one less -/
def dn (c : Nat) : Int32 := nI c + m1
theorem dn_0 : dn 0 = m1 := by decide +kernel
theorem dn_s (c : Nat) : dn (c + 1) = nI c := m1_m1 c
theorem dn_m (c : Nat) : nI c + m1 = dn c := rfl
/-- a downward loop -/
theorem dn_inv {σ ρ : Type} (k : Nat → Nat → σ → Option ρ) (Inv : Nat → σ → Prop)
    (hs : ∀ n c s, Inv (c + 1) s → ∃ s', Inv c s' ∧ k (n + 1) (c + 1) s = k n c s') :
    ∀ c s n, c ≤ n → Inv c s → ∃ s', Inv 0 s' ∧ k n c s = k (n - c) 0 s' := by
  intro c
  induction c with
  | zero =>
    intro s n _ h3
    exact ⟨s, h3, rfl⟩
  | succ c ih =>
    intro s n h2 h3
    obtain ⟨n', rfl⟩ : ∃ n', n = n' + 1 := ⟨n - 1, by omega⟩
    obtain ⟨s1, h4, h5⟩ := hs n' c s h3
    obtain ⟨s2, h6, h7⟩ := ih s1 n' (by omega) h4
    refine ⟨s2, h6, ?_⟩
    rw [h5, h7]
    congr 1
    omega
/-! sums over sets -/
theorem e8_has {a j : Nat} (ha : a < 2 ^ 31) (hj : j < 31) (M : gM) : f_X8_has (nI a) (nI j) M = some (nI (if a.testBit j then 1 else 0)) := by
  unfold f_X8_has
  rw [nI_bit ha hj]
  by_cases h : a.testBit j
  · rw [if_pos h]; rfl
  · rw [if_neg h]; rfl
theorem e9_has {a j : Nat} (ha : a < 2 ^ 31) (hj : j < 31) (M : gM) : f_X9_has (nI a) (nI j) M = some (nI (if a.testBit j then 1 else 0)) := by
  unfold f_X9_has
  rw [nI_bit ha hj]
  by_cases h : a.testBit j
  · rw [if_pos h]; rfl
  · rw [if_neg h]; rfl
/-- what the bits of a have in the row f, of the first n -/
def sS (f : Nat → Nat) (a n : Nat) : Nat := fb_sm (fun p => if a.testBit p then f p else 0) n
theorem sS_le {f : Nat → Nat} {a n c : Nat} (h : ∀ p, p < n → f p ≤ c) : sS f a n ≤ n * c :=
  fb_sm_bound (fun k hk => by
    by_cases q : a.testBit k
    · simp only [q, if_true]; exact h k hk
    · simp [q])
theorem e8_sumOver {F a o : Nat} {M : gM} {f : Nat → Nat} (hF : 4000 ≤ F) (ha : a < 2 ^ 31) (h : ∀ p, p < 10 → M o p = nI (f p)) : f_X8_sumOver F (nI a) o 10 M = some (nI (sS f a 10)) := by
  obtain ⟨s, h1, h2⟩ := up_inv (fun n i (s : Int32) => f_X8_sumOver_h4 F (nI a) o 10 M n s (nI i)) 10 (fun i s => s = nI (sS f a i)) (by
    intro n i s hi hs
    refine ⟨_, rfl, ?_⟩
    subst hs
    show f_X8_sumOver_h4_b _ _ _ _ _ _ _ _ = _
    unfold f_X8_sumOver_h4_b
    rw [e8_has ha (by omega)]
    have e : sS f a (i + 1) = sS f a i + (if a.testBit i then f i else 0) := rfl
    rw [e]
    by_cases q : a.testBit i
    · simp (disch := omega) only [pn_lt, pn_ltM, pl_ofN, ↓pl_m1, pl_lit, fa_litL, pn_bs, ck_n, ckh_n, ck_t, ckh_t, nI_add, nI_clamp, nI_ltI, nI_leI, nI_eq, m1_eq, m1_eq2, m1_lt, m1_le, m1_lt2, m1_le2, m1_m1, nI_m1, nI_subn, gb_n, Nat.add_zero, Nat.zero_add, Nat.zero_or, Nat.or_zero, nle_f, nle_t, nlt_f, nlt_t, neq_f, neq_t, Bool.false_eq_true, eq_self, if_true, if_false, ite_true, ite_false, and_true, true_and, and_false, false_and, decide_true, decide_false, Bool.and_true, Bool.true_and, Bool.and_false, Bool.false_and, Bool.or_false, Bool.false_or, Bool.or_true, Bool.true_or, Bool.not_true, Bool.not_false, not_true_eq_false, not_false_eq_true, q, h i hi]
    · simp (disch := omega) only [pn_lt, pn_ltM, pl_ofN, ↓pl_m1, pl_lit, fa_litL, pn_bs, ck_n, ckh_n, ck_t, ckh_t, nI_add, nI_clamp, nI_ltI, nI_leI, nI_eq, m1_eq, m1_eq2, m1_lt, m1_le, m1_lt2, m1_le2, m1_m1, nI_m1, nI_subn, gb_n, Nat.add_zero, Nat.zero_add, Nat.zero_or, Nat.or_zero, nle_f, nle_t, nlt_f, nlt_t, neq_f, neq_t, Bool.false_eq_true, eq_self, if_true, if_false, ite_true, ite_false, and_true, true_and, and_false, false_and, decide_true, decide_false, Bool.and_true, Bool.true_and, Bool.and_false, Bool.false_and, Bool.or_false, Bool.false_or, Bool.or_true, Bool.true_or, Bool.not_true, Bool.not_false, not_true_eq_false, not_false_eq_true, q, h i hi]) 10 0 (nI 0) F (by omega) (by omega) rfl
  unfold f_X8_sumOver
  refine h2.trans ?_
  obtain ⟨n', e⟩ : ∃ n', F - 10 = n' + 1 := ⟨F - 11, by omega⟩
  rw [e]
  show f_X8_sumOver_h4_b _ _ _ _ _ _ _ _ = _
  unfold f_X8_sumOver_h4_b
  simp (disch := omega) only [pn_lt, pn_ltM, pl_ofN, ↓pl_m1, pl_lit, fa_litL, pn_bs, ck_n, ckh_n, ck_t, ckh_t, nI_add, nI_clamp, nI_ltI, nI_leI, nI_eq, m1_eq, m1_eq2, m1_lt, m1_le, m1_lt2, m1_le2, m1_m1, nI_m1, nI_subn, gb_n, Nat.add_zero, Nat.zero_add, Nat.zero_or, Nat.or_zero, nle_f, nle_t, nlt_f, nlt_t, neq_f, neq_t, Bool.false_eq_true, eq_self, if_true, if_false, ite_true, ite_false, and_true, true_and, and_false, false_and, decide_true, decide_false, Bool.and_true, Bool.true_and, Bool.and_false, Bool.false_and, Bool.or_false, Bool.false_or, Bool.or_true, Bool.true_or, Bool.not_true, Bool.not_false, not_true_eq_false, not_false_eq_true, h1]
