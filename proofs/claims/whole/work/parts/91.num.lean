/-! words and numbers of the text -/
def wlL : List (List Nat) := [[112, 97, 114, 116], [99, 108, 97, 115, 104], [115, 99, 101, 110, 101], [98, 114, 111, 119], [101, 121, 101, 115], [109, 111, 117, 116, 104]]
def wl (k : Nat) : List Nat := wlL.getD k []
theorem wl_len : ∀ k, k < 6 → slen k = nI (wl k).length ∧ gLen.getD k 0 = (wl k).length ∧ (wl k).length ≤ 5 ∧ 4 ≤ (wl k).length := by decide +kernel
theorem wl_chr : ∀ k, k < 6 → ∀ j, j < 5 → schar k (nI j) = nI ((wl k).getD j 0) := by decide +kernel
theorem wl_le : ∀ k, k < 6 → ∀ j, j < 5 → (wl k).getD j 0 ≤ 255 := by decide +kernel
/-- the first m letters of the word stand at s -/
def wdP (T : Nat → Nat) (L : List Nat) (s : Nat) : Nat → Bool
  | 0 => true
  | m + 1 => wdP T L s m && decide (T (s + m) = L.getD m 0)
def wdB (T : Nat → Nat) (L : List Nat) (s e : Nat) : Bool := decide (e - s = L.length) && wdP T L s L.length
theorem wdP_dn {T : Nat → Nat} {L : List Nat} {s m : Nat} (h : wdP T L s m = false) : ∀ q, wdP T L s (m + q) = false
  | 0 => h
  | q + 1 => by
    show (wdP T L s (m + q) && _) = false
    rw [wdP_dn h q]; rfl
theorem wdP_dn' {T : Nat → Nat} {L : List Nat} {s m n : Nat} (h : wdP T L s m = false) (hn : m ≤ n) : wdP T L s n = false := by
  have := wdP_dn h (n - m)
  rw [show m + (n - m) = n by omega] at this
  exact this
section EV
variable {T : Nat → Nat} {tl F : Nat} {M : gM}
theorem e6_stands (hF : 4000 ≤ F) (hb : xTb T tl) (h8 : xT8 T tl M) {k s e : Nat} (hk : k < 6) (hs : s ≤ e) (he : e ≤ tl) : f_X6_stands F k (nI s) (nI e) M = some (nI (if wdB T (wl k) s e then 1 else 0)) := by
  have h400 := hb.1
  obtain ⟨l1, l2, l3, l4⟩ := wl_len k hk
  unfold f_X6_stands wdB
  rw [l1, nI_subn hs]
  by_cases c : e - s = (wl k).length
  · rw [if_pos (congrArg nI c.symm), decide_eq_true c, Bool.true_and]
    obtain ⟨r, h1, h2⟩ := up_loop (fun n j (_ : Unit) => f_X6_stands_h15 F k (nI s) (nI e) M n (nI j)) (wl k).length (fun j _ => wdP T (wl k) s j = true) (fun r => r = nI (if wdP T (wl k) s (wl k).length then 1 else 0)) (by
      intro n j _ hj hI
      have e1 := e6_byteAt hb h8 (i := s + j) (by omega)
      have e2 := wl_chr k hk j (by omega)
      have e3 := wl_le k hk j (by omega)
      have e4 := hb.2 (s + j) (by omega)
      have e5 : wdP T (wl k) s (j + 1) = (wdP T (wl k) s j && decide (T (s + j) = (wl k).getD j 0)) := rfl
      by_cases c2 : T (s + j) = (wl k).getD j 0
      · refine .inl ⟨(), by rw [e5, hI, decide_eq_true c2]; rfl, ?_⟩
        show f_X6_stands_h15_b _ _ _ _ _ _ _ = _
        unfold f_X6_stands_h15_b
        rw [l1, l2]
        simp (disch := omega) only [pn_lt, pn_ltM, pl_ofN, ↓pl_m1, pl_lit, fa_litL, pn_bs, ck_n, ckh_n, ck_t, ckh_t, nI_add, nI_clamp, nI_ltI, nI_leI, nI_eq, m1_eq, m1_eq2, m1_lt, m1_le, m1_lt2, m1_le2, m1_m1, nI_m1, nI_subn, gb_n, Nat.add_zero, Nat.zero_add, Nat.zero_or, Nat.or_zero, nle_f, nle_t, nlt_f, nlt_t, neq_f, neq_t, Bool.false_eq_true, eq_self, if_true, if_false, ite_true, ite_false, and_true, true_and, and_false, false_and, decide_true, decide_false, Bool.and_true, Bool.true_and, Bool.and_false, Bool.false_and, Bool.or_false, Bool.false_or, Bool.or_true, Bool.true_or, Bool.not_true, Bool.not_false, not_true_eq_false, not_false_eq_true, e1, e2, c2]
      · refine .inr ⟨nI 0, ?_, ?_⟩
        · have e6 : wdP T (wl k) s (j + 1) = false := by rw [e5, decide_eq_false c2, Bool.and_false]
          rw [wdP_dn' e6 (by omega)]
          rfl
        · show f_X6_stands_h15_b _ _ _ _ _ _ _ = _
          unfold f_X6_stands_h15_b
          rw [l1, l2]
          simp (disch := omega) only [pn_lt, pn_ltM, pl_ofN, ↓pl_m1, pl_lit, fa_litL, pn_bs, ck_n, ckh_n, ck_t, ckh_t, nI_add, nI_clamp, nI_ltI, nI_leI, nI_eq, m1_eq, m1_eq2, m1_lt, m1_le, m1_lt2, m1_le2, m1_m1, nI_m1, nI_subn, gb_n, Nat.add_zero, Nat.zero_add, Nat.zero_or, Nat.or_zero, nle_f, nle_t, nlt_f, nlt_t, neq_f, neq_t, Bool.false_eq_true, eq_self, if_true, if_false, ite_true, ite_false, and_true, true_and, and_false, false_and, decide_true, decide_false, Bool.and_true, Bool.true_and, Bool.and_false, Bool.false_and, Bool.or_false, Bool.false_or, Bool.or_true, Bool.true_or, Bool.not_true, Bool.not_false, not_true_eq_false, not_false_eq_true, e1, e2, c2]) (by
      intro n _ hI
      refine ⟨nI 1, by rw [hI]; rfl, ?_⟩
      show f_X6_stands_h15_b _ _ _ _ _ _ _ = _
      unfold f_X6_stands_h15_b
      rw [l1]
      simp (disch := omega) only [pn_lt, pn_ltM, pl_ofN, ↓pl_m1, pl_lit, fa_litL, pn_bs, ck_n, ckh_n, ck_t, ckh_t, nI_add, nI_clamp, nI_ltI, nI_leI, nI_eq, m1_eq, m1_eq2, m1_lt, m1_le, m1_lt2, m1_le2, m1_m1, nI_m1, nI_subn, gb_n, Nat.add_zero, Nat.zero_add, Nat.zero_or, Nat.or_zero, nle_f, nle_t, nlt_f, nlt_t, neq_f, neq_t, Bool.false_eq_true, eq_self, if_true, if_false, ite_true, ite_false, and_true, true_and, and_false, false_and, decide_true, decide_false, Bool.and_true, Bool.true_and, Bool.and_false, Bool.false_and, Bool.or_false, Bool.false_or, Bool.or_true, Bool.true_or, Bool.not_true, Bool.not_false, not_true_eq_false, not_false_eq_true]) (wl k).length 0 () F (by omega) (by omega) rfl
    rw [← h1]
    exact h2
  · rw [if_neg (fun q => c (nI_inj (by omega) (by omega) q).symm), decide_eq_false c, Bool.false_and]
    rfl
theorem e9_isWord (hF : 4000 ≤ F) (hb : xTb T tl) (h9 : xT9 T tl M) {k s e a b c d g : Nat} (hk : k < 6) (hs : s ≤ e) (he : e ≤ tl) (h16 : M 95 16 = nI s) (h17 : M 95 17 = nI (e - s)) (h0 : (wl k).getD 0 0 = a) (h1 : (wl k).getD 1 0 = b) (h2 : (wl k).getD 2 0 = c) (h3 : (wl k).getD 3 0 = d) (h4 : (wl k).length = 5 → (wl k).getD 4 0 = g) : f_X9_isWord F (nI (wl k).length) (nI a) (nI b) (nI c) (nI d) (nI g) M = some (nI (if wdB T (wl k) s e then 1 else 0)) := by
  have h400 := hb.1
  obtain ⟨l1, l2, l3, l4⟩ := wl_len k hk
  have hle : ∀ j, j < 5 → (wl k).getD j 0 ≤ 255 := wl_le k hk
  have a5 := hle 0 (by omega)
  have b5 := hle 1 (by omega)
  have c5 := hle 2 (by omega)
  have d5 := hle 3 (by omega)
  have g5 := hle 4 (by omega)
  have key : ∀ fl : Bool, (fl = true → e - s = (wl k).length) → f_X9_isWord_h18 F (nI (wl k).length) (nI a) (nI b) (nI c) (nI d) (nI g) M F (nI (if fl then 1 else 0)) (nI 0) = some (nI (if fl && wdP T (wl k) s (wl k).length then 1 else 0)) := by
    intro fl hfl
    cases fl
    · obtain ⟨n', e2⟩ : ∃ n', F = n' + 1 := ⟨F - 1, by omega⟩
      have e3 : f_X9_isWord_h18 F (nI (wl k).length) (nI a) (nI b) (nI c) (nI d) (nI g) M (n' + 1) (nI 0) (nI 0) = some (nI 0) := by
        show f_X9_isWord_h18_b _ _ _ _ _ _ _ _ _ _ _ = _
        unfold f_X9_isWord_h18_b
        simp (disch := omega) only [pn_lt, pn_ltM, pl_ofN, ↓pl_m1, pl_lit, fa_litL, pn_bs, ck_n, ckh_n, ck_t, ckh_t, nI_add, nI_clamp, nI_ltI, nI_leI, nI_eq, m1_eq, m1_eq2, m1_lt, m1_le, m1_lt2, m1_le2, m1_m1, nI_m1, nI_subn, gb_n, Nat.add_zero, Nat.zero_add, Nat.zero_or, Nat.or_zero, nle_f, nle_t, nlt_f, nlt_t, neq_f, neq_t, Bool.false_eq_true, eq_self, if_true, if_false, ite_true, ite_false, and_true, true_and, and_false, false_and, decide_true, decide_false, Bool.and_true, Bool.true_and, Bool.and_false, Bool.false_and, Bool.or_false, Bool.false_or, Bool.or_true, Bool.true_or, Bool.not_true, Bool.not_false, not_true_eq_false, not_false_eq_true]
      rw [← e2] at e3
      exact e3
    · have hlen := hfl rfl
      obtain ⟨r, h5, h6⟩ := up_loop (fun n j (y : Int32) => f_X9_isWord_h18 F (nI (wl k).length) (nI a) (nI b) (nI c) (nI d) (nI g) M n y (nI j)) (wl k).length (fun j y => y = nI (if wdP T (wl k) s j then 1 else 0)) (fun r => r = nI (if wdP T (wl k) s (wl k).length then 1 else 0)) (by
        intro n j y hj hI
        subst hI
        cases c2 : wdP T (wl k) s j
        · refine .inr ⟨nI 0, ?_, ?_⟩
          · rw [wdP_dn' c2 (by omega)]; rfl
          · show f_X9_isWord_h18_b _ _ _ _ _ _ _ _ _ _ _ = _
            unfold f_X9_isWord_h18_b
            simp (disch := omega) only [pn_lt, pn_ltM, pl_ofN, ↓pl_m1, pl_lit, fa_litL, pn_bs, ck_n, ckh_n, ck_t, ckh_t, nI_add, nI_clamp, nI_ltI, nI_leI, nI_eq, m1_eq, m1_eq2, m1_lt, m1_le, m1_lt2, m1_le2, m1_m1, nI_m1, nI_subn, gb_n, Nat.add_zero, Nat.zero_add, Nat.zero_or, Nat.or_zero, nle_f, nle_t, nlt_f, nlt_t, neq_f, neq_t, Bool.false_eq_true, eq_self, if_true, if_false, ite_true, ite_false, and_true, true_and, and_false, false_and, decide_true, decide_false, Bool.and_true, Bool.true_and, Bool.and_false, Bool.false_and, Bool.or_false, Bool.false_or, Bool.or_true, Bool.true_or, Bool.not_true, Bool.not_false, not_true_eq_false, not_false_eq_true]
        · refine .inl ⟨_, rfl, ?_⟩
          show f_X9_isWord_h18_b _ _ _ _ _ _ _ _ _ _ _ = _
          unfold f_X9_isWord_h18_b f_X9_isWord_b84
          have e1 := h9.2 (s + j) (by omega)
          have e4 := hb.2 (s + j) (by omega)
          have e5 : wdP T (wl k) s (j + 1) = (wdP T (wl k) s j && decide (T (s + j) = (wl k).getD j 0)) := rfl
          rw [e5, c2]
          rcases (by omega : j = 0 ∨ j = 1 ∨ j = 2 ∨ j = 3 ∨ j = 4) with q | q | q | q | q
          · subst q
            rw [h0]
            rw [Nat.add_zero] at e1 e4
            by_cases c3 : T s = a
            · simp (disch := omega) only [pn_lt, pn_ltM, pl_ofN, ↓pl_m1, pl_lit, fa_litL, pn_bs, ck_n, ckh_n, ck_t, ckh_t, nI_add, nI_clamp, nI_ltI, nI_leI, nI_eq, m1_eq, m1_eq2, m1_lt, m1_le, m1_lt2, m1_le2, m1_m1, nI_m1, nI_subn, gb_n, Nat.add_zero, Nat.zero_add, Nat.zero_or, Nat.or_zero, nle_f, nle_t, nlt_f, nlt_t, neq_f, neq_t, Bool.false_eq_true, eq_self, if_true, if_false, ite_true, ite_false, and_true, true_and, and_false, false_and, decide_true, decide_false, Bool.and_true, Bool.true_and, Bool.and_false, Bool.false_and, Bool.or_false, Bool.false_or, Bool.or_true, Bool.true_or, Bool.not_true, Bool.not_false, not_true_eq_false, not_false_eq_true, h16, e1, c3]
            · simp (disch := omega) only [pn_lt, pn_ltM, pl_ofN, ↓pl_m1, pl_lit, fa_litL, pn_bs, ck_n, ckh_n, ck_t, ckh_t, nI_add, nI_clamp, nI_ltI, nI_leI, nI_eq, m1_eq, m1_eq2, m1_lt, m1_le, m1_lt2, m1_le2, m1_m1, nI_m1, nI_subn, gb_n, Nat.add_zero, Nat.zero_add, Nat.zero_or, Nat.or_zero, nle_f, nle_t, nlt_f, nlt_t, neq_f, neq_t, Bool.false_eq_true, eq_self, if_true, if_false, ite_true, ite_false, and_true, true_and, and_false, false_and, decide_true, decide_false, Bool.and_true, Bool.true_and, Bool.and_false, Bool.false_and, Bool.or_false, Bool.false_or, Bool.or_true, Bool.true_or, Bool.not_true, Bool.not_false, not_true_eq_false, not_false_eq_true, h16, e1, c3]
          · subst q
            rw [h1]
            by_cases c3 : T (s + 1) = b
            · simp (disch := omega) only [pn_lt, pn_ltM, pl_ofN, ↓pl_m1, pl_lit, fa_litL, pn_bs, ck_n, ckh_n, ck_t, ckh_t, nI_add, nI_clamp, nI_ltI, nI_leI, nI_eq, m1_eq, m1_eq2, m1_lt, m1_le, m1_lt2, m1_le2, m1_m1, nI_m1, nI_subn, gb_n, Nat.add_zero, Nat.zero_add, Nat.zero_or, Nat.or_zero, nle_f, nle_t, nlt_f, nlt_t, neq_f, neq_t, Bool.false_eq_true, eq_self, if_true, if_false, ite_true, ite_false, and_true, true_and, and_false, false_and, decide_true, decide_false, Bool.and_true, Bool.true_and, Bool.and_false, Bool.false_and, Bool.or_false, Bool.false_or, Bool.or_true, Bool.true_or, Bool.not_true, Bool.not_false, not_true_eq_false, not_false_eq_true, h16, e1, c3]
            · simp (disch := omega) only [pn_lt, pn_ltM, pl_ofN, ↓pl_m1, pl_lit, fa_litL, pn_bs, ck_n, ckh_n, ck_t, ckh_t, nI_add, nI_clamp, nI_ltI, nI_leI, nI_eq, m1_eq, m1_eq2, m1_lt, m1_le, m1_lt2, m1_le2, m1_m1, nI_m1, nI_subn, gb_n, Nat.add_zero, Nat.zero_add, Nat.zero_or, Nat.or_zero, nle_f, nle_t, nlt_f, nlt_t, neq_f, neq_t, Bool.false_eq_true, eq_self, if_true, if_false, ite_true, ite_false, and_true, true_and, and_false, false_and, decide_true, decide_false, Bool.and_true, Bool.true_and, Bool.and_false, Bool.false_and, Bool.or_false, Bool.false_or, Bool.or_true, Bool.true_or, Bool.not_true, Bool.not_false, not_true_eq_false, not_false_eq_true, h16, e1, c3]
          · subst q
            rw [h2]
            by_cases c3 : T (s + 2) = c
            · simp (disch := omega) only [pn_lt, pn_ltM, pl_ofN, ↓pl_m1, pl_lit, fa_litL, pn_bs, ck_n, ckh_n, ck_t, ckh_t, nI_add, nI_clamp, nI_ltI, nI_leI, nI_eq, m1_eq, m1_eq2, m1_lt, m1_le, m1_lt2, m1_le2, m1_m1, nI_m1, nI_subn, gb_n, Nat.add_zero, Nat.zero_add, Nat.zero_or, Nat.or_zero, nle_f, nle_t, nlt_f, nlt_t, neq_f, neq_t, Bool.false_eq_true, eq_self, if_true, if_false, ite_true, ite_false, and_true, true_and, and_false, false_and, decide_true, decide_false, Bool.and_true, Bool.true_and, Bool.and_false, Bool.false_and, Bool.or_false, Bool.false_or, Bool.or_true, Bool.true_or, Bool.not_true, Bool.not_false, not_true_eq_false, not_false_eq_true, h16, e1, c3]
            · simp (disch := omega) only [pn_lt, pn_ltM, pl_ofN, ↓pl_m1, pl_lit, fa_litL, pn_bs, ck_n, ckh_n, ck_t, ckh_t, nI_add, nI_clamp, nI_ltI, nI_leI, nI_eq, m1_eq, m1_eq2, m1_lt, m1_le, m1_lt2, m1_le2, m1_m1, nI_m1, nI_subn, gb_n, Nat.add_zero, Nat.zero_add, Nat.zero_or, Nat.or_zero, nle_f, nle_t, nlt_f, nlt_t, neq_f, neq_t, Bool.false_eq_true, eq_self, if_true, if_false, ite_true, ite_false, and_true, true_and, and_false, false_and, decide_true, decide_false, Bool.and_true, Bool.true_and, Bool.and_false, Bool.false_and, Bool.or_false, Bool.false_or, Bool.or_true, Bool.true_or, Bool.not_true, Bool.not_false, not_true_eq_false, not_false_eq_true, h16, e1, c3]
          · subst q
            rw [h3]
            by_cases c3 : T (s + 3) = d
            · simp (disch := omega) only [pn_lt, pn_ltM, pl_ofN, ↓pl_m1, pl_lit, fa_litL, pn_bs, ck_n, ckh_n, ck_t, ckh_t, nI_add, nI_clamp, nI_ltI, nI_leI, nI_eq, m1_eq, m1_eq2, m1_lt, m1_le, m1_lt2, m1_le2, m1_m1, nI_m1, nI_subn, gb_n, Nat.add_zero, Nat.zero_add, Nat.zero_or, Nat.or_zero, nle_f, nle_t, nlt_f, nlt_t, neq_f, neq_t, Bool.false_eq_true, eq_self, if_true, if_false, ite_true, ite_false, and_true, true_and, and_false, false_and, decide_true, decide_false, Bool.and_true, Bool.true_and, Bool.and_false, Bool.false_and, Bool.or_false, Bool.false_or, Bool.or_true, Bool.true_or, Bool.not_true, Bool.not_false, not_true_eq_false, not_false_eq_true, h16, e1, c3]
            · simp (disch := omega) only [pn_lt, pn_ltM, pl_ofN, ↓pl_m1, pl_lit, fa_litL, pn_bs, ck_n, ckh_n, ck_t, ckh_t, nI_add, nI_clamp, nI_ltI, nI_leI, nI_eq, m1_eq, m1_eq2, m1_lt, m1_le, m1_lt2, m1_le2, m1_m1, nI_m1, nI_subn, gb_n, Nat.add_zero, Nat.zero_add, Nat.zero_or, Nat.or_zero, nle_f, nle_t, nlt_f, nlt_t, neq_f, neq_t, Bool.false_eq_true, eq_self, if_true, if_false, ite_true, ite_false, and_true, true_and, and_false, false_and, decide_true, decide_false, Bool.and_true, Bool.true_and, Bool.and_false, Bool.false_and, Bool.or_false, Bool.false_or, Bool.or_true, Bool.true_or, Bool.not_true, Bool.not_false, not_true_eq_false, not_false_eq_true, h16, e1, c3]
          · subst q
            rw [h4 (by omega)]
            rw [h4 (by omega)] at g5
            by_cases c3 : T (s + 4) = g
            · simp (disch := omega) only [pn_lt, pn_ltM, pl_ofN, ↓pl_m1, pl_lit, fa_litL, pn_bs, ck_n, ckh_n, ck_t, ckh_t, nI_add, nI_clamp, nI_ltI, nI_leI, nI_eq, m1_eq, m1_eq2, m1_lt, m1_le, m1_lt2, m1_le2, m1_m1, nI_m1, nI_subn, gb_n, Nat.add_zero, Nat.zero_add, Nat.zero_or, Nat.or_zero, nle_f, nle_t, nlt_f, nlt_t, neq_f, neq_t, Bool.false_eq_true, eq_self, if_true, if_false, ite_true, ite_false, and_true, true_and, and_false, false_and, decide_true, decide_false, Bool.and_true, Bool.true_and, Bool.and_false, Bool.false_and, Bool.or_false, Bool.false_or, Bool.or_true, Bool.true_or, Bool.not_true, Bool.not_false, not_true_eq_false, not_false_eq_true, h16, e1, c3]
            · simp (disch := omega) only [pn_lt, pn_ltM, pl_ofN, ↓pl_m1, pl_lit, fa_litL, pn_bs, ck_n, ckh_n, ck_t, ckh_t, nI_add, nI_clamp, nI_ltI, nI_leI, nI_eq, m1_eq, m1_eq2, m1_lt, m1_le, m1_lt2, m1_le2, m1_m1, nI_m1, nI_subn, gb_n, Nat.add_zero, Nat.zero_add, Nat.zero_or, Nat.or_zero, nle_f, nle_t, nlt_f, nlt_t, neq_f, neq_t, Bool.false_eq_true, eq_self, if_true, if_false, ite_true, ite_false, and_true, true_and, and_false, false_and, decide_true, decide_false, Bool.and_true, Bool.true_and, Bool.and_false, Bool.false_and, Bool.or_false, Bool.false_or, Bool.or_true, Bool.true_or, Bool.not_true, Bool.not_false, not_true_eq_false, not_false_eq_true, h16, e1, c3]) (by
        intro n y hI
        refine ⟨y, hI, ?_⟩
        show f_X9_isWord_h18_b _ _ _ _ _ _ _ _ _ _ _ = _
        unfold f_X9_isWord_h18_b
        subst hI
        cases c2 : wdP T (wl k) s (wl k).length
        · simp (disch := omega) only [pn_lt, pn_ltM, pl_ofN, ↓pl_m1, pl_lit, fa_litL, pn_bs, ck_n, ckh_n, ck_t, ckh_t, nI_add, nI_clamp, nI_ltI, nI_leI, nI_eq, m1_eq, m1_eq2, m1_lt, m1_le, m1_lt2, m1_le2, m1_m1, nI_m1, nI_subn, gb_n, Nat.add_zero, Nat.zero_add, Nat.zero_or, Nat.or_zero, nle_f, nle_t, nlt_f, nlt_t, neq_f, neq_t, Bool.false_eq_true, eq_self, if_true, if_false, ite_true, ite_false, and_true, true_and, and_false, false_and, decide_true, decide_false, Bool.and_true, Bool.true_and, Bool.and_false, Bool.false_and, Bool.or_false, Bool.false_or, Bool.or_true, Bool.true_or, Bool.not_true, Bool.not_false, not_true_eq_false, not_false_eq_true]
        · simp (disch := omega) only [pn_lt, pn_ltM, pl_ofN, ↓pl_m1, pl_lit, fa_litL, pn_bs, ck_n, ckh_n, ck_t, ckh_t, nI_add, nI_clamp, nI_ltI, nI_leI, nI_eq, m1_eq, m1_eq2, m1_lt, m1_le, m1_lt2, m1_le2, m1_m1, nI_m1, nI_subn, gb_n, Nat.add_zero, Nat.zero_add, Nat.zero_or, Nat.or_zero, nle_f, nle_t, nlt_f, nlt_t, neq_f, neq_t, Bool.false_eq_true, eq_self, if_true, if_false, ite_true, ite_false, and_true, true_and, and_false, false_and, decide_true, decide_false, Bool.and_true, Bool.true_and, Bool.and_false, Bool.false_and, Bool.or_false, Bool.false_or, Bool.or_true, Bool.true_or, Bool.not_true, Bool.not_false, not_true_eq_false, not_false_eq_true]) (wl k).length 0 (nI 1) F (by omega) (by omega) rfl
      rw [Bool.true_and, ← h5]
      exact h6
  unfold f_X9_isWord wdB
  rw [h17]
  by_cases c2 : e - s = (wl k).length
  · have := key true (fun _ => c2)
    rw [if_pos (congrArg nI c2), decide_eq_true c2]
    exact this
  · have := key false (fun q => absurd q (by decide))
    rw [if_neg (fun q => c2 (nI_inj (by omega) (by omega) q)), decide_eq_false c2]
    exact this
/-- the value of the first figures -/
def vl (T : Nat → Nat) (s : Nat) : Nat → Nat
  | 0 => 0
  | j + 1 => vl T s j * 10 + (T (s + j) - 48)
theorem fiB_t {x : Nat} (h : fiB T x = true) : 48 ≤ T x ∧ T x ≤ 57 := by
  unfold fiB at h
  rw [Bool.and_eq_true, decide_eq_true_iff, decide_eq_true_iff] at h
  exact h
theorem fiB_f {x : Nat} (h : fiB T x = false) : T x < 48 ∨ 57 < T x := by
  unfold fiB at h
  rw [Bool.and_eq_false_iff, decide_eq_false_iff_not, decide_eq_false_iff_not] at h
  omega
end EV
