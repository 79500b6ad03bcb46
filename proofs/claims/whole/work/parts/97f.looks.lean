/-! the looks of a town: told in order by both sides -/
def lkB (E : Nat → Nat → Nat) (b e m : Nat) : Bool := (decide (E 1 b = 0) && (decide (E 1 e = 1) && decide (E 1 m = 2))) && (!(E 8 b).testBit e && (!(E 8 b).testBit m && !(E 8 e).testBit m))
def lkM (E : Nat → Nat → Nat) (b e : Nat) (l : List (Nat × Nat × Nat)) : Nat → List (Nat × Nat × Nat)
  | 0 => l
  | m + 1 => if lkB E b e m then lkM E b e l m ++ [(b, e, m)] else lkM E b e l m
def lkE (E : Nat → Nat → Nat) (n b : Nat) (l : List (Nat × Nat × Nat)) : Nat → List (Nat × Nat × Nat)
  | 0 => l
  | e + 1 => lkM E b e (lkE E n b l e) n
def lkA (E : Nat → Nat → Nat) (n : Nat) : Nat → List (Nat × Nat × Nat)
  | 0 => []
  | b + 1 => lkE E n b (lkA E n b) n
theorem lkM_s (E : Nat → Nat → Nat) (b e : Nat) (l : List (Nat × Nat × Nat)) (m : Nat) : lkM E b e l (m + 1) = if lkB E b e m then lkM E b e l m ++ [(b, e, m)] else lkM E b e l m := rfl
theorem lkM_up (E : Nat → Nat → Nat) (b e : Nat) (l : List (Nat × Nat × Nat)) (m : Nat) : (lkM E b e l m).length ≤ (lkM E b e l (m + 1)).length := by
  rw [lkM_s]
  split
  · rw [List.length_append]; omega
  · omega
theorem lkM_mono (E : Nat → Nat → Nat) (b e : Nat) (l : List (Nat × Nat × Nat)) (m : Nat) : ∀ k, (lkM E b e l m).length ≤ (lkM E b e l (m + k)).length
  | 0 => Nat.le_refl _
  | k + 1 => Nat.le_trans (lkM_mono E b e l m k) (lkM_up E b e l (m + k))
theorem lkM_le (E : Nat → Nat → Nat) (b e : Nat) (l : List (Nat × Nat × Nat)) {m n : Nat} (h : m ≤ n) : (lkM E b e l m).length ≤ (lkM E b e l n).length := by
  have := lkM_mono E b e l m (n - m)
  rwa [show m + (n - m) = n by omega] at this
theorem lkE_mono (E : Nat → Nat → Nat) (n b : Nat) (l : List (Nat × Nat × Nat)) (e : Nat) : ∀ k, (lkE E n b l e).length ≤ (lkE E n b l (e + k)).length
  | 0 => Nat.le_refl _
  | k + 1 => Nat.le_trans (lkE_mono E n b l e k) (lkM_le E b (e + k) (lkE E n b l (e + k)) (Nat.zero_le n))
theorem lkE_le (E : Nat → Nat → Nat) (n b : Nat) (l : List (Nat × Nat × Nat)) {e e' : Nat} (h : e ≤ e') : (lkE E n b l e).length ≤ (lkE E n b l e').length := by
  have := lkE_mono E n b l e (e' - e)
  rwa [show e + (e' - e) = e' by omega] at this
theorem lkA_mono (E : Nat → Nat → Nat) (n b : Nat) : ∀ k, (lkA E n b).length ≤ (lkA E n (b + k)).length
  | 0 => Nat.le_refl _
  | k + 1 => Nat.le_trans (lkA_mono E n b k) (lkE_le E n (b + k) (lkA E n (b + k)) (Nat.zero_le n))
theorem lkA_le (E : Nat → Nat → Nat) (n : Nat) {b b' : Nat} (h : b ≤ b') : (lkA E n b).length ≤ (lkA E n b').length := by
  have := lkA_mono E n b (b' - b)
  rwa [show b + (b' - b) = b' by omega] at this
/-- how many of the kind -/
def lkC (E : Nat → Nat → Nat) (k n : Nat) : Nat := fb_ct (fun p => decide (E 1 p = k)) n
theorem lkC_s (E : Nat → Nat → Nat) (k n : Nat) : lkC E k (n + 1) = lkC E k n + (if E 1 n = k then 1 else 0) := by
  show fb_ct _ n + _ = _
  unfold lkC
  by_cases h : E 1 n = k
  · simp [h]
  · simp [h]
theorem lkC_3 (E : Nat → Nat → Nat) : ∀ n, lkC E 0 n + lkC E 1 n + lkC E 2 n ≤ n
  | 0 => Nat.le_refl _
  | n + 1 => by
    have := lkC_3 E n
    rw [lkC_s, lkC_s, lkC_s]
    by_cases h0 : E 1 n = 0
    · rw [if_pos h0, if_neg (by omega), if_neg (by omega)]; omega
    · by_cases h1 : E 1 n = 1
      · rw [if_neg h0, if_pos h1, if_neg (by omega)]; omega
      · rw [if_neg h0, if_neg h1]
        split <;> omega
theorem lkB_k {E : Nat → Nat → Nat} {b e m : Nat} (h : lkB E b e m = true) : E 1 b = 0 ∧ E 1 e = 1 ∧ E 1 m = 2 := by
  unfold lkB at h
  rw [Bool.and_eq_true, Bool.and_eq_true, Bool.and_eq_true, decide_eq_true_iff, decide_eq_true_iff, decide_eq_true_iff] at h
  exact h.1
theorem lkM_len (E : Nat → Nat → Nat) (b e : Nat) (l : List (Nat × Nat × Nat)) : ∀ m, (lkM E b e l m).length ≤ l.length + (if E 1 b = 0 ∧ E 1 e = 1 then lkC E 2 m else 0)
  | 0 => Nat.le_add_right _ _
  | m + 1 => by
    have ih := lkM_len E b e l m
    rw [lkM_s, lkC_s]
    by_cases h : lkB E b e m = true
    · obtain ⟨h0, h1, h2⟩ := lkB_k h
      rw [if_pos h, List.length_append, if_pos ⟨h0, h1⟩, if_pos h2]
      rw [if_pos ⟨h0, h1⟩] at ih
      show _ + 1 ≤ _
      omega
    · rw [if_neg h]
      by_cases h2 : E 1 b = 0 ∧ E 1 e = 1
      · rw [if_pos h2] at ih ⊢
        omega
      · rw [if_neg h2] at ih ⊢
        exact ih
theorem lkE_len (E : Nat → Nat → Nat) (n b : Nat) (l : List (Nat × Nat × Nat)) : ∀ e, (lkE E n b l e).length ≤ l.length + (if E 1 b = 0 then lkC E 1 e * lkC E 2 n else 0)
  | 0 => Nat.le_add_right _ _
  | e + 1 => by
    have ih := lkE_len E n b l e
    have h1 := lkM_len E b e (lkE E n b l e) n
    show (lkM E b e (lkE E n b l e) n).length ≤ _
    rw [lkC_s]
    by_cases hb : E 1 b = 0
    · rw [if_pos hb] at ih ⊢
      by_cases he : E 1 e = 1
      · rw [if_pos ⟨hb, he⟩] at h1
        rw [if_pos he, Nat.succ_mul]
        omega
      · rw [if_neg (fun q => he q.2)] at h1
        rw [if_neg he, Nat.add_zero]
        omega
    · rw [if_neg hb] at ih ⊢
      rw [if_neg (fun q => hb q.1)] at h1
      omega
theorem lkA_len (E : Nat → Nat → Nat) (n : Nat) : ∀ b, (lkA E n b).length ≤ lkC E 0 b * (lkC E 1 n * lkC E 2 n)
  | 0 => Nat.zero_le _
  | b + 1 => by
    have ih := lkA_len E n b
    have h1 := lkE_len E n b (lkA E n b) n
    show (lkE E n b (lkA E n b) n).length ≤ _
    rw [lkC_s]
    by_cases hb : E 1 b = 0
    · rw [if_pos hb] at h1 ⊢
      rw [Nat.succ_mul]
      omega
    · rw [if_neg hb] at h1 ⊢
      exact Nat.le_trans h1 ih
theorem p36 : ∀ a, a < 11 → ∀ b, b < 11 → ∀ c, c < 11 → a + b + c ≤ 10 → a * (b * c) ≤ 36 := by decide +kernel
theorem lkA_36 (E : Nat → Nat → Nat) {n : Nat} (hn : n ≤ 10) : (lkA E n n).length ≤ 36 := by
  have h := lkC_3 E n
  exact Nat.le_trans (lkA_len E n n) (p36 _ (by omega) _ (by omega) _ (by omega) (by omega))
/-- what each of them is -/
def lkP (E : Nat → Nat → Nat) (n : Nat) (x : Nat × Nat × Nat) : Prop := x.1 < n ∧ x.2.1 < n ∧ x.2.2 < n ∧ E 1 x.1 = 0 ∧ E 1 x.2.1 = 1 ∧ E 1 x.2.2 = 2
theorem lkM_P {E : Nat → Nat → Nat} {n b e : Nat} {l : List (Nat × Nat × Nat)} (hb : b < n) (he : e < n) (hl : ∀ x, x ∈ l → lkP E n x) : ∀ m, m ≤ n → ∀ x, x ∈ lkM E b e l m → lkP E n x
  | 0, _ => hl
  | m + 1, hm => fun x hx => by
    rw [lkM_s] at hx
    by_cases h : lkB E b e m = true
    · rw [if_pos h, List.mem_append] at hx
      rcases hx with hx | hx
      · exact lkM_P hb he hl m (by omega) x hx
      · have e1 := List.mem_singleton.mp hx
        subst e1
        obtain ⟨h0, h1, h2⟩ := lkB_k h
        exact ⟨hb, he, by show m < n; omega, h0, h1, h2⟩
    · rw [if_neg h] at hx
      exact lkM_P hb he hl m (by omega) x hx
theorem lkE_P {E : Nat → Nat → Nat} {n b : Nat} {l : List (Nat × Nat × Nat)} (hb : b < n) (hl : ∀ x, x ∈ l → lkP E n x) : ∀ e, e ≤ n → ∀ x, x ∈ lkE E n b l e → lkP E n x
  | 0, _ => hl
  | e + 1, he => lkM_P hb (by omega) (lkE_P hb hl e (by omega)) n (Nat.le_refl _)
theorem lkA_P {E : Nat → Nat → Nat} {n : Nat} : ∀ b, b ≤ n → ∀ x, x ∈ lkA E n b → lkP E n x
  | 0, _ => fun x hx => absurd hx (List.not_mem_nil)
  | b + 1, hb => lkE_P (by omega) (lkA_P b (by omega)) n (Nat.le_refl _)
def lkG (L : List (Nat × Nat × Nat)) (i : Nat) : Nat × Nat × Nat := L.getD i (0, 0, 0)
theorem lkG_old {L : List (Nat × Nat × Nat)} {x : Nat × Nat × Nat} {i : Nat} (h : i < L.length) : lkG (L ++ [x]) i = lkG L i := by
  unfold lkG
  rw [List.getD_eq_getElem?_getD, List.getD_eq_getElem?_getD, List.getElem?_append_left h]
theorem lkG_new (L : List (Nat × Nat × Nat)) (x : Nat × Nat × Nat) : lkG (L ++ [x]) L.length = x := by
  unfold lkG
  rw [List.getD_eq_getElem?_getD, List.getElem?_append_right (Nat.le_refl _), Nat.sub_self]
  rfl
theorem lkG_P {E : Nat → Nat → Nat} {n i : Nat} {L : List (Nat × Nat × Nat)} (h : ∀ x, x ∈ L → lkP E n x) (hi : i < L.length) : lkP E n (lkG L i) := by
  apply h
  unfold lkG
  rw [List.getD_eq_getElem?_getD, List.getElem?_eq_getElem hi]
  exact List.getElem_mem hi
/-! the class's side -/
/-- a town of n parts: its kinds, its clashes, at the class -/
def twB (E : Nat → Nat → Nat) (n : Nat) : Prop := n ≤ 10 ∧ ∀ p, p < n → E 1 p ≤ 2 ∧ E 8 p < 2 ^ n
def twK8 (E : Nat → Nat → Nat) (n : Nat) (M : gM) : Prop := M 3 10 = nI n ∧ ∀ p, p < n → M 4 p = nI (E 1 p) ∧ M 10 p = nI (E 8 p)
def twK9 (E : Nat → Nat → Nat) (n : Nat) (M : gM) : Prop := M 108 0 = nI n ∧ ∀ p, p < n → M 98 p = nI (E 1 p) ∧ M 104 p = nI (E 8 p)
def bI8 (L : List (Nat × Nat × Nat)) (M0 M : gM) : Prop := (∀ k j, ¬ (k = 39 ∧ j = 5) → ¬ (40 ≤ k ∧ k ≤ 42) → M k j = M0 k j) ∧ M 39 5 = nI L.length ∧ ∀ i, i < L.length → M 40 i = nI (lkG L i).1 ∧ M 41 i = nI (lkG L i).2.1 ∧ M 42 i = nI (lkG L i).2.2
def mk3 (x : Nat × Nat × Nat) : Nat := 2 ^ x.1 ||| 2 ^ x.2.1 ||| 2 ^ x.2.2
def bI9 (L : List (Nat × Nat × Nat)) (M0 M : gM) : Prop := (∀ k j, ¬ (k = 95 ∧ j = 21) → k ≠ 110 → M k j = M0 k j) ∧ M 95 21 = nI L.length ∧ ∀ i, i < L.length → M 110 i = nI (mk3 (lkG L i))
section EV
variable {E : Nat → Nat → Nat} {n F : Nat} {M M0 : gM}
theorem e3_kind (hB : twB E n) (h : twK8 E n M) {p k : Nat} (hp : p < n) (hk : k ≤ 2) : f_X7_isOfKind 3 (nI p) (nI k) M = some (nI (if decide (E 1 p = k) then 1 else 0)) := by
  have hn := hB.1
  obtain ⟨b1, b2⟩ := hB.2 p hp
  obtain ⟨t1, t2⟩ := h.2 p hp
  have r0 : rf 3 0 = 4 := rfl
  unfold f_X7_isOfKind f_X7_hasPart
  by_cases q : E 1 p = k
  · simp (disch := omega) only [pn_lt, pn_ltM, pl_ofN, ↓pl_m1, pl_lit, fa_litL, pn_bs, ck_n, ckh_n, ck_t, ckh_t, nI_add, nI_clamp, nI_ltI, nI_leI, nI_eq, m1_eq, m1_eq2, m1_lt, m1_le, m1_lt2, m1_le2, m1_m1, nI_m1, nI_subn, gb_n, Nat.add_zero, Nat.zero_add, Nat.zero_or, Nat.or_zero, nle_f, nle_t, nlt_f, nlt_t, neq_f, neq_t, Bool.false_eq_true, eq_self, if_true, if_false, ite_true, ite_false, and_true, true_and, and_false, false_and, decide_true, decide_false, Bool.and_true, Bool.true_and, Bool.and_false, Bool.false_and, Bool.or_false, Bool.false_or, Bool.or_true, Bool.true_or, Bool.not_true, Bool.not_false, not_true_eq_false, not_false_eq_true, h.1, r0, t1, q]
  · simp (disch := omega) only [pn_lt, pn_ltM, pl_ofN, ↓pl_m1, pl_lit, fa_litL, pn_bs, ck_n, ckh_n, ck_t, ckh_t, nI_add, nI_clamp, nI_ltI, nI_leI, nI_eq, m1_eq, m1_eq2, m1_lt, m1_le, m1_lt2, m1_le2, m1_m1, nI_m1, nI_subn, gb_n, Nat.add_zero, Nat.zero_add, Nat.zero_or, Nat.or_zero, nle_f, nle_t, nlt_f, nlt_t, neq_f, neq_t, Bool.false_eq_true, eq_self, if_true, if_false, ite_true, ite_false, and_true, true_and, and_false, false_and, decide_true, decide_false, Bool.and_true, Bool.true_and, Bool.and_false, Bool.false_and, Bool.or_false, Bool.false_or, Bool.or_true, Bool.true_or, Bool.not_true, Bool.not_false, not_true_eq_false, not_false_eq_true, h.1, r0, t1, q]
theorem e3_clash (hB : twB E n) (h : twK8 E n M) {p q : Nat} (hp : p < n) (hq : q < n) : f_X7_isClash 3 (nI p) (nI q) M = some (nI (if (E 8 p).testBit q then 1 else 0)) := by
  have hn := hB.1
  obtain ⟨b1, b2⟩ := hB.2 p hp
  obtain ⟨t1, t2⟩ := h.2 p hp
  have r0 : rf 3 6 = 10 := rfl
  have b3 := Nat.lt_of_lt_of_le b2 (p2_31 hn)
  have e := e8_has (a := E 8 p) (j := q) (by omega) (by omega) M
  unfold f_X7_isClash f_X7_hasPart
  cases c : (E 8 p).testBit q
  · simp (disch := omega) only [pn_lt, pn_ltM, pl_ofN, ↓pl_m1, pl_lit, fa_litL, pn_bs, ck_n, ckh_n, ck_t, ckh_t, nI_add, nI_clamp, nI_ltI, nI_leI, nI_eq, m1_eq, m1_eq2, m1_lt, m1_le, m1_lt2, m1_le2, m1_m1, nI_m1, nI_subn, gb_n, Nat.add_zero, Nat.zero_add, Nat.zero_or, Nat.or_zero, nle_f, nle_t, nlt_f, nlt_t, neq_f, neq_t, Bool.false_eq_true, eq_self, if_true, if_false, ite_true, ite_false, and_true, true_and, and_false, false_and, decide_true, decide_false, Bool.and_true, Bool.true_and, Bool.and_false, Bool.false_and, Bool.or_false, Bool.false_or, Bool.or_true, Bool.true_or, Bool.not_true, Bool.not_false, not_true_eq_false, not_false_eq_true, h.1, r0, t2, e, c]
  · simp (disch := omega) only [pn_lt, pn_ltM, pl_ofN, ↓pl_m1, pl_lit, fa_litL, pn_bs, ck_n, ckh_n, ck_t, ckh_t, nI_add, nI_clamp, nI_ltI, nI_leI, nI_eq, m1_eq, m1_eq2, m1_lt, m1_le, m1_lt2, m1_le2, m1_m1, nI_m1, nI_subn, gb_n, Nat.add_zero, Nat.zero_add, Nat.zero_or, Nat.or_zero, nle_f, nle_t, nlt_f, nlt_t, neq_f, neq_t, Bool.false_eq_true, eq_self, if_true, if_false, ite_true, ite_false, and_true, true_and, and_false, false_and, decide_true, decide_false, Bool.and_true, Bool.true_and, Bool.and_false, Bool.false_and, Bool.or_false, Bool.false_or, Bool.or_true, Bool.true_or, Bool.not_true, Bool.not_false, not_true_eq_false, not_false_eq_true, h.1, r0, t2, e, c]
theorem e2_isLook (hB : twB E n) (h : twK8 E n M) {b e m : Nat} (hb : b < n) (he : e < n) (hm : m < n) : f_X2_isLook (nI b) (nI e) (nI m) M = some (nI (if lkB E b e m then 1 else 0)) := by
  have k1 := e3_kind (k := 0) hB h hb (by omega)
  have k2 := e3_kind (k := 1) hB h he (by omega)
  have k3 := e3_kind (k := 2) hB h hm (by omega)
  have c1 := e3_clash hB h hb he
  have c2 := e3_clash hB h hb hm
  have c3 := e3_clash hB h he hm
  unfold f_X2_isLook lkB
  cases a1 : decide (E 1 b = 0)
  · simp (disch := omega) only [pn_lt, pn_ltM, pl_ofN, ↓pl_m1, pl_lit, fa_litL, pn_bs, ck_n, ckh_n, ck_t, ckh_t, nI_add, nI_clamp, nI_ltI, nI_leI, nI_eq, m1_eq, m1_eq2, m1_lt, m1_le, m1_lt2, m1_le2, m1_m1, nI_m1, nI_subn, gb_n, Nat.add_zero, Nat.zero_add, Nat.zero_or, Nat.or_zero, nle_f, nle_t, nlt_f, nlt_t, neq_f, neq_t, Bool.false_eq_true, eq_self, if_true, if_false, ite_true, ite_false, and_true, true_and, and_false, false_and, decide_true, decide_false, Bool.and_true, Bool.true_and, Bool.and_false, Bool.false_and, Bool.or_false, Bool.false_or, Bool.or_true, Bool.true_or, Bool.not_true, Bool.not_false, not_true_eq_false, not_false_eq_true, k1, a1]
  · cases a2 : decide (E 1 e = 1)
    · simp (disch := omega) only [pn_lt, pn_ltM, pl_ofN, ↓pl_m1, pl_lit, fa_litL, pn_bs, ck_n, ckh_n, ck_t, ckh_t, nI_add, nI_clamp, nI_ltI, nI_leI, nI_eq, m1_eq, m1_eq2, m1_lt, m1_le, m1_lt2, m1_le2, m1_m1, nI_m1, nI_subn, gb_n, Nat.add_zero, Nat.zero_add, Nat.zero_or, Nat.or_zero, nle_f, nle_t, nlt_f, nlt_t, neq_f, neq_t, Bool.false_eq_true, eq_self, if_true, if_false, ite_true, ite_false, and_true, true_and, and_false, false_and, decide_true, decide_false, Bool.and_true, Bool.true_and, Bool.and_false, Bool.false_and, Bool.or_false, Bool.false_or, Bool.or_true, Bool.true_or, Bool.not_true, Bool.not_false, not_true_eq_false, not_false_eq_true, k1, a1, k2, a2]
    · cases a3 : decide (E 1 m = 2)
      · simp (disch := omega) only [pn_lt, pn_ltM, pl_ofN, ↓pl_m1, pl_lit, fa_litL, pn_bs, ck_n, ckh_n, ck_t, ckh_t, nI_add, nI_clamp, nI_ltI, nI_leI, nI_eq, m1_eq, m1_eq2, m1_lt, m1_le, m1_lt2, m1_le2, m1_m1, nI_m1, nI_subn, gb_n, Nat.add_zero, Nat.zero_add, Nat.zero_or, Nat.or_zero, nle_f, nle_t, nlt_f, nlt_t, neq_f, neq_t, Bool.false_eq_true, eq_self, if_true, if_false, ite_true, ite_false, and_true, true_and, and_false, false_and, decide_true, decide_false, Bool.and_true, Bool.true_and, Bool.and_false, Bool.false_and, Bool.or_false, Bool.false_or, Bool.or_true, Bool.true_or, Bool.not_true, Bool.not_false, not_true_eq_false, not_false_eq_true, k1, a1, k2, a2, k3, a3]
      · cases a4 : (E 8 b).testBit e
        · cases a5 : (E 8 b).testBit m
          · cases a6 : (E 8 e).testBit m
            · simp (disch := omega) only [pn_lt, pn_ltM, pl_ofN, ↓pl_m1, pl_lit, fa_litL, pn_bs, ck_n, ckh_n, ck_t, ckh_t, nI_add, nI_clamp, nI_ltI, nI_leI, nI_eq, m1_eq, m1_eq2, m1_lt, m1_le, m1_lt2, m1_le2, m1_m1, nI_m1, nI_subn, gb_n, Nat.add_zero, Nat.zero_add, Nat.zero_or, Nat.or_zero, nle_f, nle_t, nlt_f, nlt_t, neq_f, neq_t, Bool.false_eq_true, eq_self, if_true, if_false, ite_true, ite_false, and_true, true_and, and_false, false_and, decide_true, decide_false, Bool.and_true, Bool.true_and, Bool.and_false, Bool.false_and, Bool.or_false, Bool.false_or, Bool.or_true, Bool.true_or, Bool.not_true, Bool.not_false, not_true_eq_false, not_false_eq_true, k1, a1, k2, a2, k3, a3, c1, a4, c2, a5, c3, a6]
            · simp (disch := omega) only [pn_lt, pn_ltM, pl_ofN, ↓pl_m1, pl_lit, fa_litL, pn_bs, ck_n, ckh_n, ck_t, ckh_t, nI_add, nI_clamp, nI_ltI, nI_leI, nI_eq, m1_eq, m1_eq2, m1_lt, m1_le, m1_lt2, m1_le2, m1_m1, nI_m1, nI_subn, gb_n, Nat.add_zero, Nat.zero_add, Nat.zero_or, Nat.or_zero, nle_f, nle_t, nlt_f, nlt_t, neq_f, neq_t, Bool.false_eq_true, eq_self, if_true, if_false, ite_true, ite_false, and_true, true_and, and_false, false_and, decide_true, decide_false, Bool.and_true, Bool.true_and, Bool.and_false, Bool.false_and, Bool.or_false, Bool.false_or, Bool.or_true, Bool.true_or, Bool.not_true, Bool.not_false, not_true_eq_false, not_false_eq_true, k1, a1, k2, a2, k3, a3, c1, a4, c2, a5, c3, a6]
          · simp (disch := omega) only [pn_lt, pn_ltM, pl_ofN, ↓pl_m1, pl_lit, fa_litL, pn_bs, ck_n, ckh_n, ck_t, ckh_t, nI_add, nI_clamp, nI_ltI, nI_leI, nI_eq, m1_eq, m1_eq2, m1_lt, m1_le, m1_lt2, m1_le2, m1_m1, nI_m1, nI_subn, gb_n, Nat.add_zero, Nat.zero_add, Nat.zero_or, Nat.or_zero, nle_f, nle_t, nlt_f, nlt_t, neq_f, neq_t, Bool.false_eq_true, eq_self, if_true, if_false, ite_true, ite_false, and_true, true_and, and_false, false_and, decide_true, decide_false, Bool.and_true, Bool.true_and, Bool.and_false, Bool.false_and, Bool.or_false, Bool.false_or, Bool.or_true, Bool.true_or, Bool.not_true, Bool.not_false, not_true_eq_false, not_false_eq_true, k1, a1, k2, a2, k3, a3, c1, a4, c2, a5]
        · simp (disch := omega) only [pn_lt, pn_ltM, pl_ofN, ↓pl_m1, pl_lit, fa_litL, pn_bs, ck_n, ckh_n, ck_t, ckh_t, nI_add, nI_clamp, nI_ltI, nI_leI, nI_eq, m1_eq, m1_eq2, m1_lt, m1_le, m1_lt2, m1_le2, m1_m1, nI_m1, nI_subn, gb_n, Nat.add_zero, Nat.zero_add, Nat.zero_or, Nat.or_zero, nle_f, nle_t, nlt_f, nlt_t, neq_f, neq_t, Bool.false_eq_true, eq_self, if_true, if_false, ite_true, ite_false, and_true, true_and, and_false, false_and, decide_true, decide_false, Bool.and_true, Bool.true_and, Bool.and_false, Bool.false_and, Bool.or_false, Bool.false_or, Bool.or_true, Bool.true_or, Bool.not_true, Bool.not_false, not_true_eq_false, not_false_eq_true, k1, a1, k2, a2, k3, a3, c1, a4]
theorem twK8_b {L : List (Nat × Nat × Nat)} (h : twK8 E n M0) (q : bI8 L M0 M) : twK8 E n M :=
  ⟨by rw [q.1 _ _ (by omega) (by omega)]; exact h.1, fun p hp => ⟨by rw [q.1 _ _ (by omega) (by omega)]; exact (h.2 p hp).1, by rw [q.1 _ _ (by omega) (by omega)]; exact (h.2 p hp).2⟩⟩
theorem bd_m (hF : 4000 ≤ F) (hB : twB E n) (h0 : twK8 E n M0) {b e : Nat} (hb : b < n) (he : e < n) {l : List (Nat × Nat × Nat)} (hl : (lkM E b e l n).length ≤ 36) (k7 : Int32 → gM → Option gM) (k20 : Int32 → Int32 → gM → Option gM) (hI : bI8 l M0 M) :
    ∃ M', f_X2_build_h33 F k7 k20 F (nI b) (nI e) (nI 0) M = k20 (nI b) (nI (e + 1)) M' ∧ bI8 (lkM E b e l n) M0 M' := by
  have hn := hB.1
  obtain ⟨s, h1, h2⟩ := up_inv (fun q m (N : gM) => f_X2_build_h33 F k7 k20 q (nI b) (nI e) (nI m) N) n (fun m N => bI8 (lkM E b e l m) M0 N) (by
    intro q m N hm hN
    have hK := twK8_b h0 hN
    have e1 := e2_isLook hB hK hb he hm
    have e2 := hN.2.1
    have hle := lkM_le E b e l (show m + 1 ≤ n by omega)
    rw [lkM_s]
    rw [lkM_s] at hle
    cases c : lkB E b e m
    · refine ⟨N, by rw [if_neg (by decide)]; exact hN, ?_⟩
      show f_X2_build_h33_b F k7 k20 _ _ _ _ _ = _
      unfold f_X2_build_h33_b
      simp (disch := omega) only [pn_lt, pn_ltM, pl_ofN, ↓pl_m1, pl_lit, fa_litL, pn_bs, ck_n, ckh_n, ck_t, ckh_t, nI_add, nI_clamp, nI_ltI, nI_leI, nI_eq, m1_eq, m1_eq2, m1_lt, m1_le, m1_lt2, m1_le2, m1_m1, nI_m1, nI_subn, gb_n, Nat.add_zero, Nat.zero_add, Nat.zero_or, Nat.or_zero, nle_f, nle_t, nlt_f, nlt_t, neq_f, neq_t, Bool.false_eq_true, eq_self, if_true, if_false, ite_true, ite_false, and_true, true_and, and_false, false_and, decide_true, decide_false, Bool.and_true, Bool.true_and, Bool.and_false, Bool.false_and, Bool.or_false, Bool.false_or, Bool.or_true, Bool.true_or, Bool.not_true, Bool.not_false, not_true_eq_false, not_false_eq_true, hK.1, e1, c]
    · rw [c, if_pos rfl, List.length_append] at hle
      have hlt : (lkM E b e l m).length < 36 := by
        have : [(b, e, m)].length = 1 := rfl
        omega
      obtain ⟨q1, q2, q3⟩ := hN
      rw [if_pos rfl]
      refine ⟨gst (gst (gst (gst N 40 (lkM E b e l m).length (nI b)) 41 (lkM E b e l m).length (nI e)) 42 (lkM E b e l m).length (nI m)) 39 5 (nI ((lkM E b e l m).length + 1)), ⟨fun k j n1 n2 => ?_, ?_, fun i hi => ?_⟩, ?_⟩
      · rw [gst_v, gst_v, gst_v, gst_v, if_neg (by omega), if_neg (by omega), if_neg (by omega), if_neg (by omega)]
        exact q1 k j n1 n2
      · rw [gst_v, if_pos ⟨rfl, rfl⟩, List.length_append]
        rfl
      · rw [List.length_append] at hi
        have h3 : [(b, e, m)].length = 1 := rfl
        by_cases ei : i = (lkM E b e l m).length
        · subst ei
          rw [lkG_new]
          refine ⟨?_, ?_, ?_⟩
          · simp (disch := omega) only [pn_lt, pn_ltM, pl_ofN, ↓pl_m1, pl_lit, fa_litL, pn_bs, ck_n, ckh_n, ck_t, ckh_t, nI_add, nI_clamp, nI_ltI, nI_leI, nI_eq, m1_eq, m1_eq2, m1_lt, m1_le, m1_lt2, m1_le2, m1_m1, nI_m1, nI_subn, gb_n, Nat.add_zero, Nat.zero_add, Nat.zero_or, Nat.or_zero, nle_f, nle_t, nlt_f, nlt_t, neq_f, neq_t, Bool.false_eq_true, eq_self, if_true, if_false, ite_true, ite_false, and_true, true_and, and_false, false_and, decide_true, decide_false, Bool.and_true, Bool.true_and, Bool.and_false, Bool.false_and, Bool.or_false, Bool.false_or, Bool.or_true, Bool.true_or, Bool.not_true, Bool.not_false, not_true_eq_false, not_false_eq_true, gst_v]
          · simp (disch := omega) only [pn_lt, pn_ltM, pl_ofN, ↓pl_m1, pl_lit, fa_litL, pn_bs, ck_n, ckh_n, ck_t, ckh_t, nI_add, nI_clamp, nI_ltI, nI_leI, nI_eq, m1_eq, m1_eq2, m1_lt, m1_le, m1_lt2, m1_le2, m1_m1, nI_m1, nI_subn, gb_n, Nat.add_zero, Nat.zero_add, Nat.zero_or, Nat.or_zero, nle_f, nle_t, nlt_f, nlt_t, neq_f, neq_t, Bool.false_eq_true, eq_self, if_true, if_false, ite_true, ite_false, and_true, true_and, and_false, false_and, decide_true, decide_false, Bool.and_true, Bool.true_and, Bool.and_false, Bool.false_and, Bool.or_false, Bool.false_or, Bool.or_true, Bool.true_or, Bool.not_true, Bool.not_false, not_true_eq_false, not_false_eq_true, gst_v]
          · simp (disch := omega) only [pn_lt, pn_ltM, pl_ofN, ↓pl_m1, pl_lit, fa_litL, pn_bs, ck_n, ckh_n, ck_t, ckh_t, nI_add, nI_clamp, nI_ltI, nI_leI, nI_eq, m1_eq, m1_eq2, m1_lt, m1_le, m1_lt2, m1_le2, m1_m1, nI_m1, nI_subn, gb_n, Nat.add_zero, Nat.zero_add, Nat.zero_or, Nat.or_zero, nle_f, nle_t, nlt_f, nlt_t, neq_f, neq_t, Bool.false_eq_true, eq_self, if_true, if_false, ite_true, ite_false, and_true, true_and, and_false, false_and, decide_true, decide_false, Bool.and_true, Bool.true_and, Bool.and_false, Bool.false_and, Bool.or_false, Bool.false_or, Bool.or_true, Bool.true_or, Bool.not_true, Bool.not_false, not_true_eq_false, not_false_eq_true, gst_v]
        · rw [lkG_old (by omega)]
          obtain ⟨a1, a2, a3⟩ := q3 i (by omega)
          refine ⟨?_, ?_, ?_⟩
          · simp (disch := omega) only [pn_lt, pn_ltM, pl_ofN, ↓pl_m1, pl_lit, fa_litL, pn_bs, ck_n, ckh_n, ck_t, ckh_t, nI_add, nI_clamp, nI_ltI, nI_leI, nI_eq, m1_eq, m1_eq2, m1_lt, m1_le, m1_lt2, m1_le2, m1_m1, nI_m1, nI_subn, gb_n, Nat.add_zero, Nat.zero_add, Nat.zero_or, Nat.or_zero, nle_f, nle_t, nlt_f, nlt_t, neq_f, neq_t, Bool.false_eq_true, eq_self, if_true, if_false, ite_true, ite_false, and_true, true_and, and_false, false_and, decide_true, decide_false, Bool.and_true, Bool.true_and, Bool.and_false, Bool.false_and, Bool.or_false, Bool.false_or, Bool.or_true, Bool.true_or, Bool.not_true, Bool.not_false, not_true_eq_false, not_false_eq_true, gst_v, a1]
          · simp (disch := omega) only [pn_lt, pn_ltM, pl_ofN, ↓pl_m1, pl_lit, fa_litL, pn_bs, ck_n, ckh_n, ck_t, ckh_t, nI_add, nI_clamp, nI_ltI, nI_leI, nI_eq, m1_eq, m1_eq2, m1_lt, m1_le, m1_lt2, m1_le2, m1_m1, nI_m1, nI_subn, gb_n, Nat.add_zero, Nat.zero_add, Nat.zero_or, Nat.or_zero, nle_f, nle_t, nlt_f, nlt_t, neq_f, neq_t, Bool.false_eq_true, eq_self, if_true, if_false, ite_true, ite_false, and_true, true_and, and_false, false_and, decide_true, decide_false, Bool.and_true, Bool.true_and, Bool.and_false, Bool.false_and, Bool.or_false, Bool.false_or, Bool.or_true, Bool.true_or, Bool.not_true, Bool.not_false, not_true_eq_false, not_false_eq_true, gst_v, a2]
          · simp (disch := omega) only [pn_lt, pn_ltM, pl_ofN, ↓pl_m1, pl_lit, fa_litL, pn_bs, ck_n, ckh_n, ck_t, ckh_t, nI_add, nI_clamp, nI_ltI, nI_leI, nI_eq, m1_eq, m1_eq2, m1_lt, m1_le, m1_lt2, m1_le2, m1_m1, nI_m1, nI_subn, gb_n, Nat.add_zero, Nat.zero_add, Nat.zero_or, Nat.or_zero, nle_f, nle_t, nlt_f, nlt_t, neq_f, neq_t, Bool.false_eq_true, eq_self, if_true, if_false, ite_true, ite_false, and_true, true_and, and_false, false_and, decide_true, decide_false, Bool.and_true, Bool.true_and, Bool.and_false, Bool.false_and, Bool.or_false, Bool.false_or, Bool.or_true, Bool.true_or, Bool.not_true, Bool.not_false, not_true_eq_false, not_false_eq_true, gst_v, a3]
      · show f_X2_build_h33_b F k7 k20 _ _ _ _ _ = _
        unfold f_X2_build_h33_b
        simp (disch := omega) only [pn_lt, pn_ltM, pl_ofN, ↓pl_m1, pl_lit, fa_litL, pn_bs, ck_n, ckh_n, ck_t, ckh_t, nI_add, nI_clamp, nI_ltI, nI_leI, nI_eq, m1_eq, m1_eq2, m1_lt, m1_le, m1_lt2, m1_le2, m1_m1, nI_m1, nI_subn, gb_n, Nat.add_zero, Nat.zero_add, Nat.zero_or, Nat.or_zero, nle_f, nle_t, nlt_f, nlt_t, neq_f, neq_t, Bool.false_eq_true, eq_self, if_true, if_false, ite_true, ite_false, and_true, true_and, and_false, false_and, decide_true, decide_false, Bool.and_true, Bool.true_and, Bool.and_false, Bool.false_and, Bool.or_false, Bool.false_or, Bool.or_true, Bool.true_or, Bool.not_true, Bool.not_false, not_true_eq_false, not_false_eq_true, hK.1, e1, c, e2, gst_v]) n 0 M F (by omega) (by omega) hI
  refine ⟨s, h2.trans ?_, h1⟩
  obtain ⟨n', en⟩ : ∃ n', F - n = n' + 1 := ⟨F - n - 1, by omega⟩
  rw [en]
  show f_X2_build_h33_b F k7 k20 _ _ _ _ _ = _
  unfold f_X2_build_h33_b
  have hK := twK8_b h0 h1
  simp (disch := omega) only [pn_lt, pn_ltM, pl_ofN, ↓pl_m1, pl_lit, fa_litL, pn_bs, ck_n, ckh_n, ck_t, ckh_t, nI_add, nI_clamp, nI_ltI, nI_leI, nI_eq, m1_eq, m1_eq2, m1_lt, m1_le, m1_lt2, m1_le2, m1_m1, nI_m1, nI_subn, gb_n, Nat.add_zero, Nat.zero_add, Nat.zero_or, Nat.or_zero, nle_f, nle_t, nlt_f, nlt_t, neq_f, neq_t, Bool.false_eq_true, eq_self, if_true, if_false, ite_true, ite_false, and_true, true_and, and_false, false_and, decide_true, decide_false, Bool.and_true, Bool.true_and, Bool.and_false, Bool.false_and, Bool.or_false, Bool.false_or, Bool.or_true, Bool.true_or, Bool.not_true, Bool.not_false, not_true_eq_false, not_false_eq_true, hK.1]
theorem bd_e (hF : 4000 ≤ F) (hB : twB E n) (h0 : twK8 E n M0) {b : Nat} (hb : b < n) {l : List (Nat × Nat × Nat)} (hl : (lkE E n b l n).length ≤ 36) (k7 : Int32 → gM → Option gM) (hI : bI8 l M0 M) :
    ∃ M', f_X2_build_h20 F k7 F (nI b) (nI 0) M = k7 (nI (b + 1)) M' ∧ bI8 (lkE E n b l n) M0 M' := by
  have hn := hB.1
  obtain ⟨s, h1, h2⟩ := up_inv (fun q e (N : gM) => f_X2_build_h20 F k7 q (nI b) (nI e) N) n (fun e N => bI8 (lkE E n b l e) M0 N) (by
    intro q e N he hN
    have hK := twK8_b h0 hN
    have hle := lkE_le E n b l (show e + 1 ≤ n by omega)
    have hle2 : (lkM E b e (lkE E n b l e) n).length ≤ 36 := Nat.le_trans hle hl
    obtain ⟨M', r1, r2⟩ := bd_m hF hB h0 hb he hle2 k7 (f_X2_build_h20 F k7 q) hN
    refine ⟨M', r2, ?_⟩
    show f_X2_build_h20_b F k7 _ _ _ _ = _
    unfold f_X2_build_h20_b
    rw [hK.1, if_neg (by rw [nI_leI (by omega) (by omega)]; omega)]
    exact r1) n 0 M F (by omega) (by omega) hI
  refine ⟨s, h2.trans ?_, h1⟩
  obtain ⟨n', en⟩ : ∃ n', F - n = n' + 1 := ⟨F - n - 1, by omega⟩
  rw [en]
  show f_X2_build_h20_b F k7 _ _ _ _ = _
  unfold f_X2_build_h20_b
  have hK := twK8_b h0 h1
  simp (disch := omega) only [pn_lt, pn_ltM, pl_ofN, ↓pl_m1, pl_lit, fa_litL, pn_bs, ck_n, ckh_n, ck_t, ckh_t, nI_add, nI_clamp, nI_ltI, nI_leI, nI_eq, m1_eq, m1_eq2, m1_lt, m1_le, m1_lt2, m1_le2, m1_m1, nI_m1, nI_subn, gb_n, Nat.add_zero, Nat.zero_add, Nat.zero_or, Nat.or_zero, nle_f, nle_t, nlt_f, nlt_t, neq_f, neq_t, Bool.false_eq_true, eq_self, if_true, if_false, ite_true, ite_false, and_true, true_and, and_false, false_and, decide_true, decide_false, Bool.and_true, Bool.true_and, Bool.and_false, Bool.false_and, Bool.or_false, Bool.false_or, Bool.or_true, Bool.true_or, Bool.not_true, Bool.not_false, not_true_eq_false, not_false_eq_true, hK.1]
theorem bd_all (hF : 4000 ≤ F) (hB : twB E n) (h0 : twK8 E n M0) : ∃ M', f_X2_build F M0 = some M' ∧ bI8 (lkA E n n) M0 M' := by
  have hn := hB.1
  have h36 := lkA_36 E hn
  obtain ⟨s, h1, h2⟩ := up_inv (fun q b (N : gM) => f_X2_build_h7 F q (nI b) N) n (fun b N => bI8 (lkA E n b) M0 N) (by
    intro q b N hb hN
    have hK := twK8_b h0 hN
    have hle := lkA_le E n (show b + 1 ≤ n by omega)
    have hle2 : (lkE E n b (lkA E n b) n).length ≤ 36 := Nat.le_trans hle h36
    obtain ⟨M', r1, r2⟩ := bd_e hF hB h0 hb hle2 (f_X2_build_h7 F q) hN
    refine ⟨M', r2, ?_⟩
    show f_X2_build_h7_b F _ _ _ = _
    unfold f_X2_build_h7_b
    rw [hK.1, if_neg (by rw [nI_leI (by omega) (by omega)]; omega)]
    exact r1) n 0 (gst M0 39 5 (nI 0)) F (by omega) (by omega) ⟨fun k j n1 n2 => by rw [gst_v, if_neg n1], by rw [gst_v, if_pos ⟨rfl, rfl⟩]; rfl, fun i hi => absurd hi (Nat.not_lt_zero _)⟩
  refine ⟨s, h2.trans ?_, h1⟩
  obtain ⟨n', en⟩ : ∃ n', F - n = n' + 1 := ⟨F - n - 1, by omega⟩
  rw [en]
  show f_X2_build_h7_b F _ _ _ = _
  unfold f_X2_build_h7_b
  have hK := twK8_b h0 h1
  simp (disch := omega) only [pn_lt, pn_ltM, pl_ofN, ↓pl_m1, pl_lit, fa_litL, pn_bs, ck_n, ckh_n, ck_t, ckh_t, nI_add, nI_clamp, nI_ltI, nI_leI, nI_eq, m1_eq, m1_eq2, m1_lt, m1_le, m1_lt2, m1_le2, m1_m1, nI_m1, nI_subn, gb_n, Nat.add_zero, Nat.zero_add, Nat.zero_or, Nat.or_zero, nle_f, nle_t, nlt_f, nlt_t, neq_f, neq_t, Bool.false_eq_true, eq_self, if_true, if_false, ite_true, ite_false, and_true, true_and, and_false, false_and, decide_true, decide_false, Bool.and_true, Bool.true_and, Bool.and_false, Bool.false_and, Bool.or_false, Bool.false_or, Bool.or_true, Bool.true_or, Bool.not_true, Bool.not_false, not_true_eq_false, not_false_eq_true, hK.1]
/-! the model's side -/
theorem twK9_b {L : List (Nat × Nat × Nat)} (h : twK9 E n M0) (q : bI9 L M0 M) : twK9 E n M :=
  ⟨by rw [q.1 _ _ (by omega) (by omega)]; exact h.1, fun p hp => ⟨by rw [q.1 _ _ (by omega) (by omega)]; exact (h.2 p hp).1, by rw [q.1 _ _ (by omega) (by omega)]; exact (h.2 p hp).2⟩⟩
theorem fl_m (hF : 4000 ≤ F) (hB : twB E n) (h0 : twK9 E n M0) {b e : Nat} (hb : b < n) (he : e < n) {l : List (Nat × Nat × Nat)} (hl : (lkM E b e l n).length ≤ 36) (k7 : Int32 → gM → Option gM) (k19 : Int32 → Int32 → gM → Option gM) (hI : bI9 l M0 M) :
    ∃ M', f_X9_findLooks_h31 F k7 k19 F (nI b) (nI e) (nI 0) M = k19 (nI b) (nI (e + 1)) M' ∧ bI9 (lkM E b e l n) M0 M' := by
  have hn := hB.1
  obtain ⟨s, h1, h2⟩ := up_inv (fun q m (N : gM) => f_X9_findLooks_h31 F k7 k19 q (nI b) (nI e) (nI m) N) n (fun m N => bI9 (lkM E b e l m) M0 N) (by
    intro q m N hm hN
    have hK := twK9_b h0 hN
    have h108 := hK.1
    obtain ⟨kb, cb⟩ := hK.2 b hb
    obtain ⟨ke, ce⟩ := hK.2 e he
    obtain ⟨km, cm⟩ := hK.2 m hm
    obtain ⟨bb, db⟩ := hB.2 b hb
    obtain ⟨be, de⟩ := hB.2 e he
    obtain ⟨bm, dm⟩ := hB.2 m hm
    have pb := Nat.lt_of_lt_of_le db (p2_31 hn)
    have pe := Nat.lt_of_lt_of_le de (p2_31 hn)
    have e2 := hN.2.1
    have hle := lkM_le E b e l (show m + 1 ≤ n by omega)
    rw [lkM_s]
    rw [lkM_s] at hle
    have u1 := e9_has (a := E 8 b) (j := e) (by omega) (by omega) N
    have u2 := e9_has (a := E 8 b) (j := m) (by omega) (by omega) N
    have u3 := e9_has (a := E 8 e) (j := m) (by omega) (by omega) N
    have hno : lkB E b e m = false → f_X9_findLooks_h31 F k7 k19 (q + 1) (nI b) (nI e) (nI m) N = f_X9_findLooks_h31 F k7 k19 q (nI b) (nI e) (nI (m + 1)) N := by
      intro hno
      show f_X9_findLooks_h31_b F k7 k19 _ _ _ _ _ = _
      unfold f_X9_findLooks_h31_b f_X9_findLooks_b74 f_X9_findLooks_b75
      by_cases a1 : E 1 b = 0
      · by_cases a2 : E 1 e = 1
        · by_cases a3 : E 1 m = 2
          · cases a4 : (E 8 b).testBit e
            · cases a5 : (E 8 b).testBit m
              · cases a6 : (E 8 e).testBit m
                · exfalso
                  unfold lkB at hno
                  rw [decide_eq_true a1, decide_eq_true a2, decide_eq_true a3, a4, a5, a6] at hno
                  exact absurd hno (by decide)
                · simp (disch := omega) only [pn_lt, pn_ltM, pl_ofN, ↓pl_m1, pl_lit, fa_litL, pn_bs, ck_n, ckh_n, ck_t, ckh_t, nI_add, nI_clamp, nI_ltI, nI_leI, nI_eq, m1_eq, m1_eq2, m1_lt, m1_le, m1_lt2, m1_le2, m1_m1, nI_m1, nI_subn, gb_n, Nat.add_zero, Nat.zero_add, Nat.zero_or, Nat.or_zero, nle_f, nle_t, nlt_f, nlt_t, neq_f, neq_t, Bool.false_eq_true, eq_self, if_true, if_false, ite_true, ite_false, and_true, true_and, and_false, false_and, decide_true, decide_false, Bool.and_true, Bool.true_and, Bool.and_false, Bool.false_and, Bool.or_false, Bool.false_or, Bool.or_true, Bool.true_or, Bool.not_true, Bool.not_false, not_true_eq_false, not_false_eq_true, h108, kb, ke, km, a1, a2, a3, cb, ce, u1, u2, u3, a4, a5, a6]
              · simp (disch := omega) only [pn_lt, pn_ltM, pl_ofN, ↓pl_m1, pl_lit, fa_litL, pn_bs, ck_n, ckh_n, ck_t, ckh_t, nI_add, nI_clamp, nI_ltI, nI_leI, nI_eq, m1_eq, m1_eq2, m1_lt, m1_le, m1_lt2, m1_le2, m1_m1, nI_m1, nI_subn, gb_n, Nat.add_zero, Nat.zero_add, Nat.zero_or, Nat.or_zero, nle_f, nle_t, nlt_f, nlt_t, neq_f, neq_t, Bool.false_eq_true, eq_self, if_true, if_false, ite_true, ite_false, and_true, true_and, and_false, false_and, decide_true, decide_false, Bool.and_true, Bool.true_and, Bool.and_false, Bool.false_and, Bool.or_false, Bool.false_or, Bool.or_true, Bool.true_or, Bool.not_true, Bool.not_false, not_true_eq_false, not_false_eq_true, h108, kb, ke, km, a1, a2, a3, cb, ce, u1, u2, a4, a5]
            · simp (disch := omega) only [pn_lt, pn_ltM, pl_ofN, ↓pl_m1, pl_lit, fa_litL, pn_bs, ck_n, ckh_n, ck_t, ckh_t, nI_add, nI_clamp, nI_ltI, nI_leI, nI_eq, m1_eq, m1_eq2, m1_lt, m1_le, m1_lt2, m1_le2, m1_m1, nI_m1, nI_subn, gb_n, Nat.add_zero, Nat.zero_add, Nat.zero_or, Nat.or_zero, nle_f, nle_t, nlt_f, nlt_t, neq_f, neq_t, Bool.false_eq_true, eq_self, if_true, if_false, ite_true, ite_false, and_true, true_and, and_false, false_and, decide_true, decide_false, Bool.and_true, Bool.true_and, Bool.and_false, Bool.false_and, Bool.or_false, Bool.false_or, Bool.or_true, Bool.true_or, Bool.not_true, Bool.not_false, not_true_eq_false, not_false_eq_true, h108, kb, ke, km, a1, a2, a3, cb, ce, u1, a4]
          · simp (disch := omega) only [pn_lt, pn_ltM, pl_ofN, ↓pl_m1, pl_lit, fa_litL, pn_bs, ck_n, ckh_n, ck_t, ckh_t, nI_add, nI_clamp, nI_ltI, nI_leI, nI_eq, m1_eq, m1_eq2, m1_lt, m1_le, m1_lt2, m1_le2, m1_m1, nI_m1, nI_subn, gb_n, Nat.add_zero, Nat.zero_add, Nat.zero_or, Nat.or_zero, nle_f, nle_t, nlt_f, nlt_t, neq_f, neq_t, Bool.false_eq_true, eq_self, if_true, if_false, ite_true, ite_false, and_true, true_and, and_false, false_and, decide_true, decide_false, Bool.and_true, Bool.true_and, Bool.and_false, Bool.false_and, Bool.or_false, Bool.false_or, Bool.or_true, Bool.true_or, Bool.not_true, Bool.not_false, not_true_eq_false, not_false_eq_true, h108, kb, ke, km, a1, a2]
        · simp (disch := omega) only [pn_lt, pn_ltM, pl_ofN, ↓pl_m1, pl_lit, fa_litL, pn_bs, ck_n, ckh_n, ck_t, ckh_t, nI_add, nI_clamp, nI_ltI, nI_leI, nI_eq, m1_eq, m1_eq2, m1_lt, m1_le, m1_lt2, m1_le2, m1_m1, nI_m1, nI_subn, gb_n, Nat.add_zero, Nat.zero_add, Nat.zero_or, Nat.or_zero, nle_f, nle_t, nlt_f, nlt_t, neq_f, neq_t, Bool.false_eq_true, eq_self, if_true, if_false, ite_true, ite_false, and_true, true_and, and_false, false_and, decide_true, decide_false, Bool.and_true, Bool.true_and, Bool.and_false, Bool.false_and, Bool.or_false, Bool.false_or, Bool.or_true, Bool.true_or, Bool.not_true, Bool.not_false, not_true_eq_false, not_false_eq_true, h108, kb, ke, a1]
      · simp (disch := omega) only [pn_lt, pn_ltM, pl_ofN, ↓pl_m1, pl_lit, fa_litL, pn_bs, ck_n, ckh_n, ck_t, ckh_t, nI_add, nI_clamp, nI_ltI, nI_leI, nI_eq, m1_eq, m1_eq2, m1_lt, m1_le, m1_lt2, m1_le2, m1_m1, nI_m1, nI_subn, gb_n, Nat.add_zero, Nat.zero_add, Nat.zero_or, Nat.or_zero, nle_f, nle_t, nlt_f, nlt_t, neq_f, neq_t, Bool.false_eq_true, eq_self, if_true, if_false, ite_true, ite_false, and_true, true_and, and_false, false_and, decide_true, decide_false, Bool.and_true, Bool.true_and, Bool.and_false, Bool.false_and, Bool.or_false, Bool.false_or, Bool.or_true, Bool.true_or, Bool.not_true, Bool.not_false, not_true_eq_false, not_false_eq_true, h108, kb]
    cases c : lkB E b e m
    · exact ⟨N, by rw [if_neg (by decide)]; exact hN, hno c⟩
    · rw [c, if_pos rfl, List.length_append] at hle
      have hlt : (lkM E b e l m).length < 36 := by
        have : [(b, e, m)].length = 1 := rfl
        omega
      obtain ⟨q1, q2, q3⟩ := hN
      rw [if_pos rfl]
      have c2 := c
      unfold lkB at c2
      rw [Bool.and_eq_true, Bool.and_eq_true, Bool.and_eq_true, Bool.and_eq_true, Bool.and_eq_true, decide_eq_true_iff, decide_eq_true_iff, decide_eq_true_iff] at c2
      obtain ⟨⟨a1, a2, a3⟩, a4, a5, a6⟩ := c2
      have a4' : (E 8 b).testBit e = false := by cases z : (E 8 b).testBit e <;> rw [z] at a4 <;> first | rfl | exact absurd a4 (by decide)
      have a5' : (E 8 b).testBit m = false := by cases z : (E 8 b).testBit m <;> rw [z] at a5 <;> first | rfl | exact absurd a5 (by decide)
      have a6' : (E 8 e).testBit m = false := by cases z : (E 8 e).testBit m <;> rw [z] at a6 <;> first | rfl | exact absurd a6 (by decide)
      refine ⟨gst (gst N 110 (lkM E b e l m).length (nI (mk3 (b, e, m)))) 95 21 (nI ((lkM E b e l m).length + 1)), ⟨fun k j n1 n2 => ?_, ?_, fun i hi => ?_⟩, ?_⟩
      · rw [gst_v, gst_v, if_neg (by omega), if_neg (by omega)]
        exact q1 k j n1 n2
      · rw [gst_v, if_pos ⟨rfl, rfl⟩, List.length_append]
        rfl
      · rw [List.length_append] at hi
        have h3 : [(b, e, m)].length = 1 := rfl
        by_cases ei : i = (lkM E b e l m).length
        · subst ei
          rw [lkG_new]
          simp (disch := omega) only [pn_lt, pn_ltM, pl_ofN, ↓pl_m1, pl_lit, fa_litL, pn_bs, ck_n, ckh_n, ck_t, ckh_t, nI_add, nI_clamp, nI_ltI, nI_leI, nI_eq, m1_eq, m1_eq2, m1_lt, m1_le, m1_lt2, m1_le2, m1_m1, nI_m1, nI_subn, gb_n, Nat.add_zero, Nat.zero_add, Nat.zero_or, Nat.or_zero, nle_f, nle_t, nlt_f, nlt_t, neq_f, neq_t, Bool.false_eq_true, eq_self, if_true, if_false, ite_true, ite_false, and_true, true_and, and_false, false_and, decide_true, decide_false, Bool.and_true, Bool.true_and, Bool.and_false, Bool.false_and, Bool.or_false, Bool.false_or, Bool.or_true, Bool.true_or, Bool.not_true, Bool.not_false, not_true_eq_false, not_false_eq_true, gst_v]
        · rw [lkG_old (by omega)]
          have a1 := q3 i (by omega)
          simp (disch := omega) only [pn_lt, pn_ltM, pl_ofN, ↓pl_m1, pl_lit, fa_litL, pn_bs, ck_n, ckh_n, ck_t, ckh_t, nI_add, nI_clamp, nI_ltI, nI_leI, nI_eq, m1_eq, m1_eq2, m1_lt, m1_le, m1_lt2, m1_le2, m1_m1, nI_m1, nI_subn, gb_n, Nat.add_zero, Nat.zero_add, Nat.zero_or, Nat.or_zero, nle_f, nle_t, nlt_f, nlt_t, neq_f, neq_t, Bool.false_eq_true, eq_self, if_true, if_false, ite_true, ite_false, and_true, true_and, and_false, false_and, decide_true, decide_false, Bool.and_true, Bool.true_and, Bool.and_false, Bool.false_and, Bool.or_false, Bool.false_or, Bool.or_true, Bool.true_or, Bool.not_true, Bool.not_false, not_true_eq_false, not_false_eq_true, gst_v, a1]
      · show f_X9_findLooks_h31_b F k7 k19 _ _ _ _ _ = _
        unfold f_X9_findLooks_h31_b f_X9_findLooks_b75 mk3
        simp (disch := omega) only [pn_lt, pn_ltM, pl_ofN, ↓pl_m1, pl_lit, fa_litL, pn_bs, ck_n, ckh_n, ck_t, ckh_t, nI_add, nI_clamp, nI_ltI, nI_leI, nI_eq, m1_eq, m1_eq2, m1_lt, m1_le, m1_lt2, m1_le2, m1_m1, nI_m1, nI_subn, gb_n, Nat.add_zero, Nat.zero_add, Nat.zero_or, Nat.or_zero, nle_f, nle_t, nlt_f, nlt_t, neq_f, neq_t, Bool.false_eq_true, eq_self, if_true, if_false, ite_true, ite_false, and_true, true_and, and_false, false_and, decide_true, decide_false, Bool.and_true, Bool.true_and, Bool.and_false, Bool.false_and, Bool.or_false, Bool.false_or, Bool.or_true, Bool.true_or, Bool.not_true, Bool.not_false, not_true_eq_false, not_false_eq_true, h108, kb, ke, km, a1, a2, a3, cb, ce, u1, u2, u3, a4', a5', a6', e2, gst_v, nI_shl', pl_or]) n 0 M F (by omega) (by omega) hI
  refine ⟨s, h2.trans ?_, h1⟩
  obtain ⟨n', en⟩ : ∃ n', F - n = n' + 1 := ⟨F - n - 1, by omega⟩
  rw [en]
  show f_X9_findLooks_h31_b F k7 k19 _ _ _ _ _ = _
  unfold f_X9_findLooks_h31_b
  have hK := (twK9_b h0 h1).1
  simp (disch := omega) only [pn_lt, pn_ltM, pl_ofN, ↓pl_m1, pl_lit, fa_litL, pn_bs, ck_n, ckh_n, ck_t, ckh_t, nI_add, nI_clamp, nI_ltI, nI_leI, nI_eq, m1_eq, m1_eq2, m1_lt, m1_le, m1_lt2, m1_le2, m1_m1, nI_m1, nI_subn, gb_n, Nat.add_zero, Nat.zero_add, Nat.zero_or, Nat.or_zero, nle_f, nle_t, nlt_f, nlt_t, neq_f, neq_t, Bool.false_eq_true, eq_self, if_true, if_false, ite_true, ite_false, and_true, true_and, and_false, false_and, decide_true, decide_false, Bool.and_true, Bool.true_and, Bool.and_false, Bool.false_and, Bool.or_false, Bool.false_or, Bool.or_true, Bool.true_or, Bool.not_true, Bool.not_false, not_true_eq_false, not_false_eq_true, hK]
theorem fl_e (hF : 4000 ≤ F) (hB : twB E n) (h0 : twK9 E n M0) {b : Nat} (hb : b < n) {l : List (Nat × Nat × Nat)} (hl : (lkE E n b l n).length ≤ 36) (k7 : Int32 → gM → Option gM) (hI : bI9 l M0 M) :
    ∃ M', f_X9_findLooks_h19 F k7 F (nI b) (nI 0) M = k7 (nI (b + 1)) M' ∧ bI9 (lkE E n b l n) M0 M' := by
  have hn := hB.1
  have x0 : ∀ (o : Option gM), ck (ib (0 : Int32) 8) o = o := fun o => ck_n (k := 0) (n := 8) o (by omega) (by omega)
  have y0 : (0 : Int32).toNatClampNeg = 0 := rfl
  obtain ⟨s, h1, h2⟩ := up_inv (fun q e (N : gM) => f_X9_findLooks_h19 F k7 q (nI b) (nI e) N) n (fun e N => bI9 (lkE E n b l e) M0 N) (by
    intro q e N he hN
    have hK := (twK9_b h0 hN).1
    have hle := lkE_le E n b l (show e + 1 ≤ n by omega)
    have hle2 : (lkM E b e (lkE E n b l e) n).length ≤ 36 := Nat.le_trans hle hl
    obtain ⟨M', r1, r2⟩ := fl_m hF hB h0 hb he hle2 k7 (f_X9_findLooks_h19 F k7 q) hN
    refine ⟨M', r2, ?_⟩
    show f_X9_findLooks_h19_b F k7 _ _ _ _ = _
    unfold f_X9_findLooks_h19_b
    rw [x0, y0, hK, if_neg (by rw [nI_leI (by omega) (by omega)]; omega)]
    exact r1) n 0 M F (by omega) (by omega) hI
  refine ⟨s, h2.trans ?_, h1⟩
  obtain ⟨n', en⟩ : ∃ n', F - n = n' + 1 := ⟨F - n - 1, by omega⟩
  rw [en]
  show f_X9_findLooks_h19_b F k7 _ _ _ _ = _
  unfold f_X9_findLooks_h19_b
  have hK := (twK9_b h0 h1).1
  rw [x0, y0, hK, if_pos (by rw [nI_leI (by omega) (by omega)]; omega)]
  exact congrArg (fun z => k7 z s) (nI_add b 1)
theorem fl_all (hF : 4000 ≤ F) (hB : twB E n) (h0 : twK9 E n M0) : ∃ M', f_X9_findLooks F M0 = some M' ∧ bI9 (lkA E n n) M0 M' := by
  have hn := hB.1
  have h36 := lkA_36 E hn
  have x0 : ∀ (o : Option gM), ck (ib (0 : Int32) 8) o = o := fun o => ck_n (k := 0) (n := 8) o (by omega) (by omega)
  have y0 : (0 : Int32).toNatClampNeg = 0 := rfl
  obtain ⟨s, h1, h2⟩ := up_inv (fun q b (N : gM) => f_X9_findLooks_h7 F q (nI b) N) n (fun b N => bI9 (lkA E n b) M0 N) (by
    intro q b N hb hN
    have hK := (twK9_b h0 hN).1
    have hle := lkA_le E n (show b + 1 ≤ n by omega)
    have hle2 : (lkE E n b (lkA E n b) n).length ≤ 36 := Nat.le_trans hle h36
    obtain ⟨M', r1, r2⟩ := fl_e hF hB h0 hb hle2 (f_X9_findLooks_h7 F q) hN
    refine ⟨M', r2, ?_⟩
    show f_X9_findLooks_h7_b F _ _ _ = _
    unfold f_X9_findLooks_h7_b
    rw [x0, y0, hK, if_neg (by rw [nI_leI (by omega) (by omega)]; omega)]
    exact r1) n 0 (gst M0 95 21 (nI 0)) F (by omega) (by omega) ⟨fun k j n1 n2 => by rw [gst_v, if_neg n1], by rw [gst_v, if_pos ⟨rfl, rfl⟩]; rfl, fun i hi => absurd hi (Nat.not_lt_zero _)⟩
  refine ⟨s, h2.trans ?_, h1⟩
  obtain ⟨n', en⟩ : ∃ n', F - n = n' + 1 := ⟨F - n - 1, by omega⟩
  rw [en]
  show f_X9_findLooks_h7_b F _ _ _ = _
  unfold f_X9_findLooks_h7_b
  have hK := (twK9_b h0 h1).1
  rw [x0, y0, hK, if_pos (by rw [nI_leI (by omega) (by omega)]; omega)]
end EV
