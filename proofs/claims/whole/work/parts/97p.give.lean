/-! the class: the looks of the scenes; the whole choice -/
theorem hk_front (D : Nat → Nat → Nat) (h u k : Nat) : hk D h u (k + 1) = (if D 9 u = h then 1 else 0) + hk D h (u + 1) k := by
  unfold hk
  rw [Nat.add_comm k 1, fb_ct_split]
  congr 1
  · show 0 + (if decide (D 9 (u + 0) = h) = true then 1 else 0) = _
    rw [Nat.zero_add, Nat.add_zero]
    by_cases q : D 9 u = h
    · simp [q]
    · simp [q]
  · refine fb_ct_cong (fun p _ => ?_)
    rw [show u + (1 + p) = u + 1 + p by omega]
theorem dn_sub (S : Nat) : nI S - nI 1 = dn S := by
  cases S with
  | zero => rw [dn_0]; decide +kernel
  | succ S => rw [dn_s]; exact nI_pred S
section EV
variable {F : Nat} {D : Nat → Nat → Nat} {M : gM}
theorem e1_give (hF : 4000 ≤ F) (hs8 : D 0 1 ≤ 8) (hD : ∀ s, s < D 0 1 → D 9 s ≤ 11) (h12 : M 3 12 = nI (D 0 1)) (h11 : ∀ s, s < D 0 1 → M 11 s = nI (D 9 s)) {h c : Nat} (hh : h < 12) (hc : c < 2 ^ 31) :
    ∃ M', f_X1_giveLooks F (nI h) (nI c) M = some M' ∧ (∀ s, s < D 0 1 → D 9 s = h → M' 87 s = nI (c / 64 ^ hk D h (s + 1) (D 0 1 - (s + 1)) % 64)) ∧ (∀ s, D 9 s ≠ h → M' 87 s = M 87 s) ∧ (∀ k, k ≠ 87 → M' k = M k) := by
  obtain ⟨⟨y, N⟩, ⟨a1, a2, a3, a4, -⟩, a5⟩ := dn_inv (fun q cc (s : Int32 × gM) => f_X1_giveLooks_h13 F (nI h) (nI c) q s.1 (dn cc) s.2) (fun cc s => s.1 = nI (c / 64 ^ hk D h cc (D 0 1 - cc)) ∧ (∀ s', cc ≤ s' → s' < D 0 1 → D 9 s' = h → s.2 87 s' = nI (c / 64 ^ hk D h (s' + 1) (D 0 1 - (s' + 1)) % 64)) ∧ (∀ s', D 9 s' ≠ h → s.2 87 s' = M 87 s') ∧ (∀ k, k ≠ 87 → s.2 k = M k) ∧ cc ≤ D 0 1) (by
    rintro q cc ⟨y, N⟩ ⟨u1, u2, u3, u4, u5⟩
    dsimp only at u1 u2 u3 u4
    subst u1
    have hcc : cc < D 0 1 := by omega
    have hd := hD cc hcc
    have v1 : N 11 cc = nI (D 9 cc) := by rw [u4 _ (by omega)]; exact h11 cc hcc
    have e0 : D 0 1 - cc = D 0 1 - (cc + 1) + 1 := by omega
    have e1 := hk_front D h cc (D 0 1 - (cc + 1))
    rw [← e0] at e1
    have hle : c / 64 ^ hk D h (cc + 1) (D 0 1 - (cc + 1)) ≤ c := Nat.div_le_self _ _
    by_cases e : D 9 cc = h
    · rw [if_pos e] at e1
      have e2 : c / 64 ^ hk D h cc (D 0 1 - cc) = c / 64 ^ hk D h (cc + 1) (D 0 1 - (cc + 1)) / 64 := by
        rw [e1, Nat.div_div_eq_div_mul, Nat.add_comm 1, Nat.pow_succ]
      refine ⟨(nI (c / 64 ^ hk D h cc (D 0 1 - cc)), gst N 87 cc (nI (c / 64 ^ hk D h (cc + 1) (D 0 1 - (cc + 1)) % 64))), ⟨rfl, fun s' h1 h2 h3 => ?_, fun s' h1 => ?_, fun k hk => ?_, by omega⟩, ?_⟩
      · show gst N 87 cc _ 87 s' = _
        rw [gst_v]
        by_cases z : s' = cc
        · rw [if_pos ⟨rfl, z⟩, z]
        · rw [if_neg (fun y => z y.2)]
          exact u2 s' (by omega) h2 h3
      · show gst N 87 cc _ 87 s' = _
        rw [gst_v, if_neg (by rintro ⟨-, z⟩; rw [z] at h1; exact h1 e)]
        exact u3 s' h1
      · show gst N 87 cc _ k = _
        rw [gst_ne _ _ _ _ hk, u4 k hk]
      · show f_X1_giveLooks_h13_b F (nI h) (nI c) (f_X1_giveLooks_h13 F (nI h) (nI c) q) (nI (c / 64 ^ hk D h (cc + 1) (D 0 1 - (cc + 1)))) (dn (cc + 1)) N = f_X1_giveLooks_h13 F (nI h) (nI c) q (nI (c / 64 ^ hk D h cc (D 0 1 - cc))) (dn cc) (gst N 87 cc (nI (c / 64 ^ hk D h (cc + 1) (D 0 1 - (cc + 1)) % 64)))
        rw [e2]
        generalize c / 64 ^ hk D h (cc + 1) (D 0 1 - (cc + 1)) = X at *
        have e3 : nI X - nI X / nI 64 * nI 64 = nI (X % 64) := pk_rem (by omega) (by omega) (by omega)
        have e4 : nI X / nI 64 = nI (X / 64) := pk_div (by omega) (by omega) (by omega)
        unfold f_X1_giveLooks_h13_b
        rw [dn_s]
        rw [e4] at e3
        simp (disch := omega) only [pn_lt, pn_ltM, pl_ofN, ↓pl_m1, pl_lit, fa_litL, pn_bs, ck_n, ckh_n, ck_t, ckh_t, nI_add, nI_clamp, nI_ltI, nI_leI, nI_eq, m1_eq, m1_eq2, m1_lt, m1_le, m1_lt2, m1_le2, m1_m1, nI_m1, nI_subn, gb_n, Nat.add_zero, Nat.zero_add, Nat.zero_or, Nat.or_zero, nle_f, nle_t, nlt_f, nlt_t, neq_f, neq_t, Bool.false_eq_true, eq_self, if_true, if_false, ite_true, ite_false, and_true, true_and, and_false, false_and, decide_true, decide_false, Bool.and_true, Bool.true_and, Bool.and_false, Bool.false_and, Bool.or_false, Bool.false_or, Bool.or_true, Bool.true_or, Bool.not_true, Bool.not_false, not_true_eq_false, not_false_eq_true, v1, e, e4, e3, dn_m]
    · rw [if_neg e, Nat.zero_add] at e1
      refine ⟨(nI (c / 64 ^ hk D h cc (D 0 1 - cc)), N), ⟨rfl, fun s' h1 h2 h3 => ?_, u3, u4, by omega⟩, ?_⟩
      · by_cases z : s' = cc
        · rw [z] at h3
          exact absurd h3 e
        · exact u2 s' (by omega) h2 h3
      · show f_X1_giveLooks_h13_b F (nI h) (nI c) (f_X1_giveLooks_h13 F (nI h) (nI c) q) (nI (c / 64 ^ hk D h (cc + 1) (D 0 1 - (cc + 1)))) (dn (cc + 1)) N = f_X1_giveLooks_h13 F (nI h) (nI c) q (nI (c / 64 ^ hk D h cc (D 0 1 - cc))) (dn cc) N
        rw [e1]
        generalize c / 64 ^ hk D h (cc + 1) (D 0 1 - (cc + 1)) = X at *
        unfold f_X1_giveLooks_h13_b
        rw [dn_s]
        simp (disch := omega) only [pn_lt, pn_ltM, pl_ofN, ↓pl_m1, pl_lit, fa_litL, pn_bs, ck_n, ckh_n, ck_t, ckh_t, nI_add, nI_clamp, nI_ltI, nI_leI, nI_eq, m1_eq, m1_eq2, m1_lt, m1_le, m1_lt2, m1_le2, m1_m1, nI_m1, nI_subn, gb_n, Nat.add_zero, Nat.zero_add, Nat.zero_or, Nat.or_zero, nle_f, nle_t, nlt_f, nlt_t, neq_f, neq_t, Bool.false_eq_true, eq_self, if_true, if_false, ite_true, ite_false, and_true, true_and, and_false, false_and, decide_true, decide_false, Bool.and_true, Bool.true_and, Bool.and_false, Bool.false_and, Bool.or_false, Bool.false_or, Bool.or_true, Bool.true_or, Bool.not_true, Bool.not_false, not_true_eq_false, not_false_eq_true, v1, e, dn_m]) (D 0 1) (nI c, M) F (by omega) ⟨by
      show nI c = nI (c / 64 ^ hk D h (D 0 1) (D 0 1 - D 0 1))
      rw [Nat.sub_self]
      show nI c = nI (c / 64 ^ 0)
      rw [Nat.pow_zero, Nat.div_one], fun s' h1 h2 => by omega, fun _ _ => rfl, fun _ _ => rfl, Nat.le_refl _⟩
  refine ⟨N, ?_, fun s hs => a2 s (Nat.zero_le _) hs, a3, a4⟩
  unfold f_X1_giveLooks
  rw [h12, pn_lt, show (1 : Int32) = nI 1 from rfl, dn_sub]
  refine a5.trans ?_
  obtain ⟨n', en⟩ : ∃ n', F - D 0 1 = n' + 1 := ⟨F - D 0 1 - 1, by omega⟩
  rw [en]
  show f_X1_giveLooks_h13_b F _ _ _ _ _ _ = _
  unfold f_X1_giveLooks_h13_b
  rw [dn_0, if_pos (show m1 < (0 : Int32) by decide +kernel)]
/-- the whole choice -/
theorem e1_choose (hF : 4000 ≤ F) (hs8 : D 0 1 ≤ 8) (hD : ∀ s, s < D 0 1 → D 9 s ≤ 11) {A : Nat → Nat → Bool} {f : Nat → Nat} {n l o : Nat} (hf : ∀ p, p < n → f p ≤ 99) (hn : n ≤ 10) (hl : l ≤ 1) (ho : o < 43 ∨ 87 < o)
    {CN : Nat → Nat} {ST CD : Nat → Nat → Nat} (hH : ∀ h, h < 12 → hT A n M h (CN h) (ST h)) (hC : ∀ h, h < 12 → ∀ k, k < CN h → M (60 + h) k = nI (CD h k) ∧ CD h k < 262144) (hr : ∀ p, p < n → M o p = nI (f p))
    (h12 : M 3 12 = nI (D 0 1)) (h11 : ∀ s, s < D 0 1 → M 11 s = nI (D 9 s)) :
    ∃ M', f_X1_choose F o 10 (nI l) M = some M' ∧ M' 43 8 = (if lcm A f n l 12 0 = 1000000 then m1 else nI (lcm A f n l 12 0)) ∧ (∀ h, h < 12 → M' 86 h = nI (if lcm A f n l 12 0 = 1000000 then 0 else wrN A f n l (h + 1))) ∧
      (lcm A f n l 12 0 < 1000000 → ∀ s, s < D 0 1 → ∃ k, k < CN (D 9 s) ∧ ST (D 9 s) k = wrN A f n l (D 9 s + 1) ∧ M' 87 s = nI (CD (D 9 s) k / 64 ^ hk D (D 9 s) (s + 1) (D 0 1 - (s + 1)) % 64)) ∧ (∀ k j, (k < 43 ∨ 87 < k ∨ 44 ≤ k ∧ k ≤ 73) → M' k j = M k j) := by
  obtain ⟨N1, b1, b2, b3⟩ := e1_costs hF hf hn hl ho hH hr
  have hN1 : ∀ N : gM, (∀ k j, (k < 43 ∨ 87 < k ∨ 44 ≤ k ∧ k ≤ 73) → N k j = M k j) → (∀ h, h < 12 → hT A n N h (CN h) (ST h)) := fun N hN h hh => hT_fr (hH h hh) (fun k j h1 h2 => hN k j (by omega)) (by omega)
  have fr1 : ∀ k j, (k < 43 ∨ 87 < k ∨ 44 ≤ k ∧ k ≤ 73) → N1 k j = M k j := fun k j hk => b3 k j (by omega)
  have haf := e1_after (M := N1) (A := A) (f := f) (n := n) (l := l) (g := m1) (h' := 0) (cnt := CN 0) (st := ST 0) (w := 0) hF hf hn hl (by show m1 + 1 = nI 0; decide +kernel) (by omega) (fun _ => ⟨hN1 N1 fr1 0 (by omega), fun k hk => b2 0 (by omega) k hk⟩) (by omega)
  have hT0 := lcm_fin (A := A) (l := l) (w := 0) (m := 12) hf hn (Nat.le_refl _)
  have haf' : f_X1_cheapestAfter F m1 (nI 0) (nI l) N1 = some (nI (if lcm A f n l 12 0 = 1000000 then 1000000000 else lcm A f n l 12 0)) := haf
  rw [b1, haf', pn_bs]
  have s43 : ∀ v : Int32, gst N1 43 8 v 43 8 = v := fun v => by rw [gst_v, if_pos ⟨rfl, rfl⟩]
  have sfr : ∀ v : Int32, ∀ k j, (k < 43 ∨ 87 < k ∨ 44 ≤ k ∧ k ≤ 73) → gst N1 43 8 v k j = M k j := fun v k j hk => by
    rw [gst_v, if_neg (by omega)]
    exact fr1 k j hk
  have scs : ∀ v : Int32, ∀ h, h < 12 → ∀ k, k < CN h → gst N1 43 8 v (74 + h) k = nI (cstN A f n l h (ST h k)) := fun v h hh k hk => by
    rw [gst_v, if_neg (by omega)]
    exact b2 h hh k hk
  by_cases z : lcm A f n l 12 0 = 1000000
  · -- there is none
    rw [if_pos z, if_pos z]
    obtain ⟨⟨y, N⟩, ⟨c1, c2, c3, c4⟩, c5⟩ := up_inv (fun q h (s : Int32 × gM) => f_X1_choose_h103 F o 10 (nI l) q s.1 (nI h) s.2) 12 (fun h s => s.1 = nI 0 ∧ s.2 43 8 = nI 1000000000 ∧ (∀ h', h' < h → s.2 86 h' = nI 0) ∧ (∀ k j, (k < 43 ∨ 87 < k ∨ 44 ≤ k ∧ k ≤ 73) → s.2 k j = M k j)) (by
      rintro q h ⟨y, N⟩ hh ⟨u1, u2, u3, u4⟩
      dsimp only at u1 u2 u3 u4
      subst u1
      obtain ⟨N', g1, g2, g3, g4⟩ := e1_give (M := gst N 86 h (nI 0)) (h := h) (c := 0) hF hs8 hD (by rw [gst_v, if_neg (by omega), u4 _ _ (by omega)]; exact h12) (fun s hs => by rw [gst_v, if_neg (by omega), u4 _ _ (by omega)]; exact h11 s hs) hh (by omega)
      refine ⟨(nI 0, N'), ⟨rfl, ?_, fun h' hh' => ?_, fun k j hk => ?_⟩, ?_⟩
      · show N' 43 8 = _
        rw [g4 _ (by omega), gst_v, if_neg (by omega), u2]
      · show N' 86 h' = _
        rw [g4 _ (by omega), gst_v]
        by_cases e : h' = h
        · rw [if_pos ⟨rfl, e⟩]
        · rw [if_neg (fun z => e z.2)]
          exact u3 h' (by omega)
      · show N' k j = _
        rw [g4 _ (by omega), gst_v, if_neg (by omega)]
        exact u4 k j hk
      · show f_X1_choose_h103_b F o 10 (nI l) (f_X1_choose_h103 F o 10 (nI l) q) (nI 0) (nI h) N = f_X1_choose_h103 F o 10 (nI l) q (nI 0) (nI (h + 1)) N'
        unfold f_X1_choose_h103_b f_X1_choose_b131 f_X1_choose_b153
        simp (disch := omega) only [pn_lt, pn_ltM, pl_ofN, ↓pl_m1, pl_lit, fa_litL, pn_bs, ck_n, ckh_n, ck_t, ckh_t, nI_add, nI_clamp, nI_ltI, nI_leI, nI_eq, m1_eq, m1_eq2, m1_lt, m1_le, m1_lt2, m1_le2, m1_m1, nI_m1, nI_subn, gb_n, Nat.add_zero, Nat.zero_add, Nat.zero_or, Nat.or_zero, nle_f, nle_t, nlt_f, nlt_t, neq_f, neq_t, Bool.false_eq_true, eq_self, if_true, if_false, ite_true, ite_false, and_true, true_and, and_false, false_and, decide_true, decide_false, Bool.and_true, Bool.true_and, Bool.and_false, Bool.false_and, Bool.or_false, Bool.false_or, Bool.or_true, Bool.true_or, Bool.not_true, Bool.not_false, not_true_eq_false, not_false_eq_true, u2, g1]) 12 0 (nI 0, gst N1 43 8 (nI 1000000000)) F (by omega) (by omega) ⟨rfl, s43 _, fun h' hh' => absurd hh' (Nat.not_lt_zero _), sfr _⟩
    dsimp only at c1 c2 c3 c4 c5
    refine ⟨gst N 43 8 m1, ?_, by rw [gst_v, if_pos ⟨rfl, rfl⟩], fun h hh => ?_, fun q => by omega, fun k j hk => by rw [gst_v, if_neg (by omega)]; exact c4 k j hk⟩
    · refine c5.trans ?_
      obtain ⟨n', en⟩ : ∃ n', F - 12 = n' + 1 := ⟨F - 13, by omega⟩
      rw [en]
      show f_X1_choose_h103_b F o 10 _ _ _ _ _ = _
      unfold f_X1_choose_h103_b
      simp (disch := omega) only [pn_lt, pn_ltM, pl_ofN, ↓pl_m1, pl_lit, fa_litL, pn_bs, ck_n, ckh_n, ck_t, ckh_t, nI_add, nI_clamp, nI_ltI, nI_leI, nI_eq, m1_eq, m1_eq2, m1_lt, m1_le, m1_lt2, m1_le2, m1_m1, nI_m1, nI_subn, gb_n, Nat.add_zero, Nat.zero_add, Nat.zero_or, Nat.or_zero, nle_f, nle_t, nlt_f, nlt_t, neq_f, neq_t, Bool.false_eq_true, eq_self, if_true, if_false, ite_true, ite_false, and_true, true_and, and_false, false_and, decide_true, decide_false, Bool.and_true, Bool.true_and, Bool.and_false, Bool.false_and, Bool.or_false, Bool.false_or, Bool.or_true, Bool.true_or, Bool.not_true, Bool.not_false, not_true_eq_false, not_false_eq_true, c2]
    · rw [gst_v, if_neg (by omega), c3 h hh, if_pos z]
  · have hlt : lcm A f n l 12 0 < 1000000 := by omega
    have hle : lcm A f n l 12 0 ≤ 11880 := by omega
    rw [if_neg z, if_neg z]
    obtain ⟨⟨y, N⟩, ⟨c1, c2, c3, c6, c4⟩, c5⟩ := up_inv (fun q h (s : Int32 × gM) => f_X1_choose_h103 F o 10 (nI l) q s.1 (nI h) s.2) 12 (fun h s => s.1 = nI (wrN A f n l h) ∧ s.2 43 8 = nI (lcm A f n l 12 0) ∧ (∀ h', h' < h → s.2 86 h' = nI (wrN A f n l (h' + 1))) ∧
        (∀ s', s' < D 0 1 → D 9 s' < h → ∃ k, k < CN (D 9 s') ∧ ST (D 9 s') k = wrN A f n l (D 9 s' + 1) ∧ s.2 87 s' = nI (CD (D 9 s') k / 64 ^ hk D (D 9 s') (s' + 1) (D 0 1 - (s' + 1)) % 64)) ∧
        (∀ k j, (k < 43 ∨ 87 < k ∨ 44 ≤ k ∧ k ≤ 73) → s.2 k j = M k j) ∧ ∀ h, h < 12 → ∀ k, k < CN h → s.2 (74 + h) k = nI (cstN A f n l h (ST h k))) (by
      rintro q h ⟨y, N⟩ hh ⟨u1, u2, u3, u6, u4, u7⟩
      dsimp only at u1 u2 u3 u6 u4 u7
      subst u1
      have hwr : wrN A f n l h < 1024 := by
        cases h with
        | zero => show 0 < 1024; omega
        | succ h => exact (wr_P hlt (show h < 12 by omega)).1
      have hHh := hN1 N u4 h hh
      obtain ⟨r, r1, r2⟩ := e1_first hF hf hn hl hh hHh (u7 h hh) hwr
      have hw := wr_ok hlt h (by omega)
      rcases r2 with ⟨r2, -⟩ | ⟨-, k, k1, k2, k3, -⟩
      · omega
      · subst k2
        have hcn := hHh.1
        obtain ⟨t1, t2, t3⟩ := hHh.2.2.1 k k1
        have k3' : ST h k = wrN A f n l (h + 1) := k3
        obtain ⟨d1, d2⟩ := hC h hh k k1
        have d3 : N (60 + h) k = nI (CD h k) := by rw [u4 _ _ (by omega)]; exact d1
        have r4 := rf45 h (by omega)
        have r9 := rf59 h (by omega)
        obtain ⟨N', g1, g2, g3, g4⟩ := e1_give (M := gst N 86 h (nI (ST h k))) (h := h) (c := CD h k) hF hs8 hD (by rw [gst_v, if_neg (by omega), u4 _ _ (by omega)]; exact h12) (fun s hs => by rw [gst_v, if_neg (by omega), u4 _ _ (by omega)]; exact h11 s hs) hh (by omega)
        refine ⟨(nI (wrN A f n l (h + 1)), N'), ⟨rfl, ?_, fun h' hh' => ?_, fun s' hs' hd' => ?_, fun k' j hk => ?_, fun h' hh' k' hk' => ?_⟩, ?_⟩
        · show N' 43 8 = _
          rw [g4 _ (by omega), gst_v, if_neg (by omega), u2]
        · show N' 86 h' = _
          rw [g4 _ (by omega), gst_v]
          by_cases e : h' = h
          · rw [if_pos ⟨rfl, e⟩, e, k3']
          · rw [if_neg (fun z => e z.2)]
            exact u3 h' (by omega)
        · by_cases e : D 9 s' = h
          · refine ⟨k, by rw [e]; exact k1, by rw [e]; exact k3', ?_⟩
            show N' 87 s' = _
            rw [g2 s' hs' e, e]
          · obtain ⟨k', y1, y2, y3⟩ := u6 s' hs' (by omega)
            refine ⟨k', y1, y2, ?_⟩
            show N' 87 s' = _
            rw [g3 s' e, gst_v, if_neg (by omega)]
            exact y3
        · show N' k' j = _
          rw [g4 _ (by omega), gst_v, if_neg (by omega)]
          exact u4 k' j hk
        · show N' (74 + h') k' = _
          rw [g4 _ (by omega), gst_v, if_neg (by omega)]
          exact u7 h' hh' k' hk'
        · show f_X1_choose_h103_b F o 10 (nI l) (f_X1_choose_h103 F o 10 (nI l) q) (nI (wrN A f n l h)) (nI h) N = f_X1_choose_h103 F o 10 (nI l) q (nI (wrN A f n l (h + 1))) (nI (h + 1)) N'
          rw [← k3']
          unfold f_X1_choose_h103_b f_X1_choose_b131 f_X1_choose_b153
          generalize lcm A f n l 12 0 = C at *
          simp (disch := omega) only [pn_lt, pn_ltM, pl_ofN, ↓pl_m1, pl_lit, fa_litL, pn_bs, ck_n, ckh_n, ck_t, ckh_t, nI_add, nI_clamp, nI_ltI, nI_leI, nI_eq, m1_eq, m1_eq2, m1_lt, m1_le, m1_lt2, m1_le2, m1_m1, nI_m1, nI_subn, gb_n, Nat.add_zero, Nat.zero_add, Nat.zero_or, Nat.or_zero, nle_f, nle_t, nlt_f, nlt_t, neq_f, neq_t, Bool.false_eq_true, eq_self, if_true, if_false, ite_true, ite_false, and_true, true_and, and_false, false_and, decide_true, decide_false, Bool.and_true, Bool.true_and, Bool.and_false, Bool.false_and, Bool.or_false, Bool.false_or, Bool.or_true, Bool.true_or, Bool.not_true, Bool.not_false, not_true_eq_false, not_false_eq_true, u2, r1, r4, r9, t1, d3, gst_v, g1]) 12 0 (nI 0, gst N1 43 8 (nI (lcm A f n l 12 0))) F (by omega) (by omega) ⟨rfl, s43 _, fun h' hh' => absurd hh' (Nat.not_lt_zero _), fun s' hs' hd => absurd hd (Nat.not_lt_zero _), sfr _, scs _⟩
    dsimp only at c1 c2 c3 c4 c5 c6
    refine ⟨N, ?_, c2, fun h hh => by rw [c3 h hh, if_neg z], fun _ s hs => c6 s hs (by have := hD s hs; omega), c4.1⟩
    refine c5.trans ?_
    obtain ⟨n', en⟩ : ∃ n', F - 12 = n' + 1 := ⟨F - 13, by omega⟩
    rw [en]
    show f_X1_choose_h103_b F o 10 _ _ _ _ _ = _
    unfold f_X1_choose_h103_b
    generalize lcm A f n l 12 0 = C at *
    simp (disch := omega) only [pn_lt, pn_ltM, pl_ofN, ↓pl_m1, pl_lit, fa_litL, pn_bs, ck_n, ckh_n, ck_t, ckh_t, nI_add, nI_clamp, nI_ltI, nI_leI, nI_eq, m1_eq, m1_eq2, m1_lt, m1_le, m1_lt2, m1_le2, m1_m1, nI_m1, nI_subn, gb_n, Nat.add_zero, Nat.zero_add, Nat.zero_or, Nat.or_zero, nle_f, nle_t, nlt_f, nlt_t, neq_f, neq_t, Bool.false_eq_true, eq_self, if_true, if_false, ite_true, ite_false, and_true, true_and, and_false, false_and, decide_true, decide_false, Bool.and_true, Bool.true_and, Bool.and_false, Bool.false_and, Bool.or_false, Bool.false_or, Bool.or_true, Bool.true_or, Bool.not_true, Bool.not_false, not_true_eq_false, not_false_eq_true, c2]
end EV
