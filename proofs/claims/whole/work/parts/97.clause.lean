/-! the clauses of a scene and of a clash, up to the end
-/
section EV
variable {T : Nat → Nat} {tl F : Nat} {M8 M9 A8 A9 : gM}
theorem z_takeScene (hF : 4000 ≤ F) (hb : xTb T tl) {fn t n : Nat} (hz : zR T tl M8 M9 fn t) (hn : n < 8) (h108 : M9 108 6 = nI n) :
    ∃ fn' t' x1 x2 x3 B8 B9, f_X3_readScene_b21 F M8 = f_X3_readScene_b56 F x1 x2 x3 B8 ∧ f_X9_takeScene F M9 = some B9 ∧ zR T tl B8 B9 fn' t' ∧ fr8 M8 B8 ∧
      (∀ k j, ¬ (k = 95 ∧ 15 ≤ j ∧ j ≤ 19) → ¬ (105 ≤ k ∧ k ≤ 107 ∧ j = 8 + n) → ¬ (k = 108 ∧ j = 6) → B9 k j = M9 k j) ∧ B9 108 6 = nI (n + 1) ∧
      (fn' = 0 → fn = 0 ∧ t ≤ t' ∧ ∃ h u v, h ≤ 11 ∧ u ≤ 27 ∧ v ≤ 27 ∧ u ≤ v ∧ x1 = nI h ∧ x2 = nI u ∧ x3 = nI v ∧ B9 105 (8 + n) = nI h ∧ B9 106 (8 + n) = nI u ∧ B9 107 (8 + n) = nI v) := by
  obtain ⟨f1, t1, p8, p9, B1, C1, a1, a2, a3, a4, a5, a6, a7⟩ := z_num hF hb hz 11
  have z1 := z_gst (k := 105) (i := 8 + n) (v := p9) a3 (by omega) (by omega)
  obtain ⟨f4, t4, s8, s9, B4, C4, d1, d2, d3, d4, d5, d6, d7⟩ := z_num hF hb z1 27
  have z4 := z_gst (k := 106) (i := 8 + n) (v := s9) d3 (by omega) (by omega)
  obtain ⟨f5, t5, u8, u9, B5, C5, e1, e2, e3, e4, e5, e6, e7⟩ := z_num hF hb z4 27
  have z5 := z_gst (k := 107) (i := 8 + n) (v := u9) e3 (by omega) (by omega)
  obtain ⟨f6, B6, C6, g6, h1, h2, h3, h4, h5, h6⟩ := z_pair z5 (a8 := s8) (b8 := u8) (a9 := s9) (b9 := u9) (fun q => by
    obtain ⟨q1, -, v, -, w1, w2, -⟩ := e7 q
    obtain ⟨-, -, v', -, w3, w4, -⟩ := d7 q1
    exact ⟨w3.trans w4.symm, w1.trans w2.symm⟩) (fun r => f_X3_readScene_b56 F p8 s8 u8 r)
  have z7 := z_gst (k := 108) (i := 6) (v := nI (n + 1)) h3 (by omega) (by omega)
  have s1 := fr9_s a5
  have s4 := fr9_s d5
  have s5 := fr9_s e5
  have s6 := fr9_s h5
  have e108 : C6 108 6 = nI n := by
    rw [s6 _ _ (by omega), gst_v, if_neg (by omega), s5 _ _ (by omega), gst_v, if_neg (by omega), s4 _ _ (by omega), gst_v, if_neg (by omega), s1 _ _ (by omega), h108]
  have v107 : gst C5 107 (8 + n) u9 107 (8 + n) = u9 := by rw [gst_v, if_pos ⟨rfl, rfl⟩]
  have v106 : gst C5 107 (8 + n) u9 106 (8 + n) = s9 := by rw [gst_v, if_neg (by omega), s5 _ _ (by omega), gst_v, if_pos ⟨rfl, rfl⟩]
  refine ⟨f6, t5, p8, s8, u8, B6, gst C6 108 6 (nI (n + 1)), ?_, ?_, z7, ?_, ?_, ?_, ?_⟩
  · unfold f_X3_readScene_b21
    rw [a1, pn_bs, pn_lt]
    dsimp only
    rw [d1, pn_bs, pn_lt]
    dsimp only
    rw [e1, pn_bs, pn_lt]
    dsimp only
    exact h1
  · unfold f_X9_takeScene f_X9_takeScene_b71
    have hx : ∀ {ρ : Type} (o : Option ρ), ck (ib (nI (8 + n)) 16) o = o := fun o => ck_n o (by omega) (by omega)
    have hc : (nI (8 + n)).toNatClampNeg = 8 + n := nI_clamp (by omega)
    rw [show (6 : Int32) = nI 6 from rfl, ck_n _ (by omega) (by omega), pn_lt, nI_clamp (by omega), h108, show (8 : Int32) = nI 8 from rfl, nI_add, show (0 : Int32) = nI 0 from rfl, a2, pn_bs, hx, hc, pn_ltM]
    dsimp only
    rw [d2, pn_bs, hx, pn_ltM]
    dsimp only
    rw [e2, pn_bs, hx, pn_ltM, hx, hx, v107, v106]
    have hfin : ∀ g0 : Int32, f_X9_want g0 4 (gst C5 107 (8 + n) u9 95 16) (gst C5 107 (8 + n) u9) = some (g6, C6) → ((f_X9_want g0 4 (gst C5 107 (8 + n) u9 95 16) (gst C5 107 (8 + n) u9)).bind fun r8 => lt_ r8.1 fun v9 => ck (ib (nI 6) 8) (ck (ib (nI 6) 8) (ltM (gst r8.2 108 6 ((r8.2 108 6) + (1 : Int32))) fun M10 => some M10))) = some (gst C6 108 6 (nI (n + 1))) := by
      intro g0 hg0
      rw [hg0, pn_bs, pn_lt]
      simp (disch := omega) only [pn_lt, pn_ltM, pl_ofN, ↓pl_m1, pl_lit, fa_litL, pn_bs, ck_n, ckh_n, ck_t, ckh_t, nI_add, nI_clamp, nI_ltI, nI_leI, nI_eq, m1_eq, m1_eq2, m1_lt, m1_le, m1_lt2, m1_le2, m1_m1, nI_m1, nI_subn, gb_n, Nat.add_zero, Nat.zero_add, Nat.zero_or, Nat.or_zero, nle_f, nle_t, nlt_f, nlt_t, neq_f, neq_t, Bool.false_eq_true, eq_self, if_true, if_false, ite_true, ite_false, and_true, true_and, and_false, false_and, decide_true, decide_false, Bool.and_true, Bool.true_and, Bool.and_false, Bool.false_and, Bool.or_false, Bool.false_or, Bool.or_true, Bool.true_or, Bool.not_true, Bool.not_false, not_true_eq_false, not_false_eq_true, gst_v, e108]
    by_cases cc : u9 < s9
    · rw [if_pos cc] at h2 ⊢
      exact hfin _ h2
    · rw [if_neg cc] at h2 ⊢
      exact hfin _ h2
  · exact fr8_t a4 (fr8_t d4 (fr8_t e4 h4))
  · intro k j n1 n2 n3
    rw [gst_v, if_neg (by omega), s6 _ _ n1, gst_v, if_neg (by omega), s5 _ _ n1, gst_v, if_neg (by omega), s4 _ _ n1, gst_v, if_neg (by omega), s1 _ _ n1]
  · rw [gst_v, if_pos ⟨rfl, rfl⟩]
  · intro q
    obtain ⟨y1, y2, y3, y4⟩ := h6 q
    obtain ⟨w5, m5, u, hu9, u1, u2, u3⟩ := e7 y1
    obtain ⟨w4, m4, s, hs9, s1', s2', s3'⟩ := d7 w5
    obtain ⟨w1, m1', p, hp9, p1, p2, p3⟩ := a7 w4
    rw [show (27 : Int32) = nI 27 from rfl, nI_leI (by omega) (by omega)] at u3 s3'
    rw [show (11 : Int32) = nI 11 from rfl, nI_leI (by omega) (by omega)] at p3
    rw [u1, s1', nI_leI (by omega) (by omega)] at y2
    refine ⟨w1, by omega, p, s, u, p3, s3', u3, y2, p1, s1', u1, ?_, ?_, ?_⟩
    · rw [gst_v, if_neg (by omega), s6 _ _ (by omega), gst_v, if_neg (by omega), s5 _ _ (by omega), gst_v, if_neg (by omega), s4 _ _ (by omega), gst_v, if_pos ⟨rfl, rfl⟩, p2]
    · rw [gst_v, if_neg (by omega), s6 _ _ (by omega), gst_v, if_neg (by omega), s5 _ _ (by omega), gst_v, if_pos ⟨rfl, rfl⟩, s2']
    · rw [gst_v, if_neg (by omega), s6 _ _ (by omega), gst_v, if_pos ⟨rfl, rfl⟩, u2]
/-- is it a clash of the half-read town -/
theorem e14_isClash {n x y c : Nat} (hn : n ≤ 10) (h : M8 14 10 = nI n) (hx : x < n) (hy : y < 31) (hc : M8 21 x = nI c) (hcb : c < 2 ^ 31) : f_X7_isClash 14 (nI x) (nI y) M8 = some (nI (if c.testBit y then 1 else 0)) := by
  unfold f_X7_isClash f_X7_hasPart
  have r6 : rf 14 6 = 21 := rfl
  have e := e8_has hcb hy M8
  cases q : c.testBit y
  · simp (disch := omega) only [pn_lt, pn_ltM, pl_ofN, ↓pl_m1, pl_lit, fa_litL, pn_bs, ck_n, ckh_n, ck_t, ckh_t, nI_add, nI_clamp, nI_ltI, nI_leI, nI_eq, m1_eq, m1_eq2, m1_lt, m1_le, m1_lt2, m1_le2, m1_m1, nI_m1, nI_subn, gb_n, Nat.add_zero, Nat.zero_add, Nat.zero_or, Nat.or_zero, nle_f, nle_t, nlt_f, nlt_t, neq_f, neq_t, Bool.false_eq_true, eq_self, if_true, if_false, ite_true, ite_false, and_true, true_and, and_false, false_and, decide_true, decide_false, Bool.and_true, Bool.true_and, Bool.and_false, Bool.false_and, Bool.or_false, Bool.false_or, Bool.or_true, Bool.true_or, Bool.not_true, Bool.not_false, not_true_eq_false, not_false_eq_true, h, r6, hc, e, q]
  · simp (disch := omega) only [pn_lt, pn_ltM, pl_ofN, ↓pl_m1, pl_lit, fa_litL, pn_bs, ck_n, ckh_n, ck_t, ckh_t, nI_add, nI_clamp, nI_ltI, nI_leI, nI_eq, m1_eq, m1_eq2, m1_lt, m1_le, m1_lt2, m1_le2, m1_m1, nI_m1, nI_subn, gb_n, Nat.add_zero, Nat.zero_add, Nat.zero_or, Nat.or_zero, nle_f, nle_t, nlt_f, nlt_t, neq_f, neq_t, Bool.false_eq_true, eq_self, if_true, if_false, ite_true, ite_false, and_true, true_and, and_false, false_and, decide_true, decide_false, Bool.and_true, Bool.true_and, Bool.and_false, Bool.false_and, Bool.or_false, Bool.false_or, Bool.or_true, Bool.true_or, Bool.not_true, Bool.not_false, not_true_eq_false, not_false_eq_true, h, r6, hc, e, q]
theorem e14_isClash_any {n : Nat} (hn : n ≤ 10) (h : M8 14 10 = nI n) (x y : Int32) : ∃ r, f_X7_isClash 14 x y M8 = some r := by
  unfold f_X7_isClash f_X7_hasPart
  rw [h]
  rcases pk_ix x (n := n) (by omega) with q | q | ⟨j, hj, rfl⟩
  · rw [if_pos q, pn_bs, if_pos rfl]
    exact ⟨_, rfl⟩
  · by_cases q2 : x < 0
    · rw [if_pos q2, pn_bs, if_pos rfl]
      exact ⟨_, rfl⟩
    · rw [if_neg q2, if_pos q, pn_bs, if_pos rfl]
      exact ⟨_, rfl⟩
  · rw [if_neg (nI_pos (by omega)), if_neg (by rw [nI_leI (by omega) (by omega)]; omega), pn_bs, if_neg (by decide), ck_n _ (by omega) (by omega)]
    unfold f_X8_has
    by_cases q3 : (M8 (rf 14 6) (nI j).toNatClampNeg >>> (y &&& 31)) &&& (1 : Int32) = 0
    · rw [if_pos q3, pn_bs, if_pos rfl]
      exact ⟨_, rfl⟩
    · rw [if_neg q3, pn_bs, if_neg (by decide)]
      exact ⟨_, rfl⟩
theorem z_takeClash (hF : 4000 ≤ F) (hb : xTb T tl) {fn t n nc : Nat} {cl : Nat → Nat} (hz : zR T tl M8 M9 fn t) (hn : n ≤ 10) (hnc : nc < 15) (h8 : M8 14 10 = nI n) (h108 : M9 108 4 = nI n) (h5 : M9 108 5 = nI nc) (hcl : ∀ p, p < n → M8 21 p = nI (cl p) ∧ M9 104 (10 + p) = nI (cl p) ∧ cl p < 2 ^ n) :
    ∃ fn' t' x1 x2 B8 B9, f_X3_readClash_b21 F M8 = f_X3_readClash_b75 F x1 x2 B8 ∧ f_X9_takeClash F M9 = some B9 ∧ zR T tl B8 B9 fn' t' ∧ fr8 M8 B8 ∧
      (∀ k j, ¬ (k = 95 ∧ 15 ≤ j ∧ j ≤ 19) → ¬ (k = 104 ∧ 10 ≤ j) → ¬ (k = 108 ∧ j = 5) → B9 k j = M9 k j) ∧
      (fn' = 0 → fn = 0 ∧ t ≤ t' ∧ ∃ x y, x < n ∧ y < n ∧ x ≠ y ∧ (cl x).testBit y = false ∧ x1 = nI x ∧ x2 = nI y ∧ B9 108 5 = nI (nc + 1) ∧ ∀ p, p < n → B9 104 (10 + p) = nI (if p = y then cl y ||| 2 ^ x else if p = x then cl x ||| 2 ^ y else cl p)) := by
  have hk : nI n - 1 = nI n - nI 1 := rfl
  obtain ⟨f1, t1, p8, p9, B1, C1, a1, a2, a3, a4, a5, a6, a7⟩ := z_num hF hb hz (nI n - 1)
  obtain ⟨f2, t2, q8, q9, B2, C2, b1, b2, b3, b4, b5, b6, b7⟩ := z_num hF hb a3 (nI n - 1)
  have s1 := fr9_s a5
  have s2 := fr9_s b5
  have hlt : ∀ v, v ≤ 999 → nI v ≤ nI n - 1 → v < n := by
    intro v hv q
    rcases Nat.eq_zero_or_pos n with z | z
    · rw [z] at q
      have e : nI 0 - 1 = m1 := by decide +kernel
      rw [e, m1_le2 (by omega)] at q
      exact q.elim
    · obtain ⟨m, e⟩ : ∃ m, n = m + 1 := ⟨n - 1, by omega⟩
      rw [e, nI_pred, nI_leI (by omega) (by omega)] at q
      omega
  have e8' : B2 14 10 = nI n := by rw [b4 _ (by omega), a4 _ (by omega), h8]
  have e81 : B1 14 10 = nI n := by rw [a4 _ (by omega), h8]
  have e108' : C1 108 4 = nI n := by rw [s1 _ _ (by omega), h108]
  have e5' : C2 108 5 = nI nc := by rw [s2 _ _ (by omega), s1 _ _ (by omega), h5]
  have c21 : ∀ p, B2 21 p = M8 21 p := fun p => by rw [b4 _ (by omega), a4 _ (by omega)]
  have c104 : ∀ p, C2 104 p = M9 104 p := fun p => by rw [s2 _ _ (by omega), s1 _ _ (by omega)]
  have hread : f_X3_readClash_b21 F M8 = if p8 = q8 then f_X3_readClash_b66 F p8 q8 B2 else (f_X7_isClash 14 p8 q8 B2).bind fun r8 => if r8 = 0 then f_X3_readClash_b75 F p8 q8 B2 else f_X3_readClash_b66 F p8 q8 B2 := by
    unfold f_X3_readClash_b21
    rw [h8, a1, pn_bs, pn_lt]
    dsimp only
    rw [e81, b1, pn_bs, pn_lt]
  have htake : f_X9_takeClash F M9 = if (C2 95 18) = 0 then
      if p9 = q9 then f_X9_takeClash_b61 F p9 q9 C2
      else
        ck (ib ((10 : Int32) + p9) 20) <|
        (f_X9_has (C2 104 ((10 : Int32) + p9).toNatClampNeg) q9 C2).bind fun r9 =>
        if r9 = 0 then f_X9_takeClash_b62 F p9 q9 (1 : Int32) C2 else f_X9_takeClash_b61 F p9 q9 C2
    else some C2 := by
    unfold f_X9_takeClash
    rw [show (4 : Int32) = nI 4 from rfl, ck_n _ (by omega) (by omega), nI_clamp (by omega), h108, show (0 : Int32) = nI 0 from rfl, a2, pn_bs, pn_lt, ck_n _ (by omega) (by omega)]
    dsimp only
    rw [e108', b2, pn_bs, pn_lt]
  by_cases c : f2 = 0
  · subst c
    obtain ⟨y1, y2, y, hy, v1, v2, v3⟩ := b7 rfl
    obtain ⟨x1, x2, x, hx, u1, u2, u3⟩ := a7 y1
    subst v1; subst v2; subst u1; subst u2
    have hxn := hlt x hx u3
    have hyn := hlt y hy v3
    obtain ⟨cx1, cx2, cx3⟩ := hcl x hxn
    obtain ⟨cy1, cy2, cy3⟩ := hcl y hyn
    have p10 := p2_31 hn
    have cx4 := Nat.lt_of_lt_of_le cx3 p10
    have cy4 := Nat.lt_of_lt_of_le cy3 p10
    have e18 : C2 95 18 = nI 0 := b3.2.2.2.2.1
    have hbad : (x = y ∨ (cl x).testBit y = true) → ∃ fn' t' x1 x2 B8 B9, f_X3_readClash_b21 F M8 = f_X3_readClash_b75 F x1 x2 B8 ∧ f_X9_takeClash F M9 = some B9 ∧ zR T tl B8 B9 fn' t' ∧ fr8 M8 B8 ∧
      (∀ k j, ¬ (k = 95 ∧ 15 ≤ j ∧ j ≤ 19) → ¬ (k = 104 ∧ 10 ≤ j) → ¬ (k = 108 ∧ j = 5) → B9 k j = M9 k j) ∧ fn' ≠ 0 := by
      intro hbad
      obtain ⟨fn', D8, D9, g1, g2, g3, g4, g5, g6, -⟩ := z_fail (num := 4) b3 (by omega) (by omega) (w8 := B2 25 3) (w9 := C2 95 16) (fun _ => (b3.2.2.2.2.2.2.2.2 rfl).2)
      have sd := fr9_s g5
      refine ⟨fn', t2, nI x, nI y, D8, D9, ?_, ?_, g3, fr8_t a4 (fr8_t b4 g4), fun k j n1 _ _ => by rw [sd _ _ n1, s2 _ _ n1, s1 _ _ n1], g6⟩
      · rw [hread]
        have h66 : f_X3_readClash_b66 F (nI x) (nI y) B2 = f_X3_readClash_b75 F (nI x) (nI y) D8 := by
          unfold f_X3_readClash_b66
          rw [show (4 : Int32) = nI 4 from rfl, g1, pn_bs]
        by_cases cxy : x = y
        · rw [if_pos (congrArg nI cxy), h66]
        · rw [if_neg (fun q => cxy (nI_inj (by omega) (by omega) q)), e14_isClash hn e8' hxn (by omega) (by rw [c21]; exact cx1) (by omega), pn_bs]
          rcases hbad with q | q
          · exact absurd q cxy
          · rw [q, if_z1, h66]
      · rw [htake, e18, if_pos (show nI 0 = (0 : Int32) from rfl)]
        have h61 : f_X9_takeClash_b61 F (nI x) (nI y) C2 = some D9 := by
          unfold f_X9_takeClash_b61 f_X9_takeClash_b62
          rw [show (0 : Int32) = nI 0 from rfl, show (4 : Int32) = nI 4 from rfl, g2, pn_bs, if_pos rfl]
        by_cases cxy : x = y
        · rw [if_pos (congrArg nI cxy), h61]
        · rw [if_neg (fun q => cxy (nI_inj (by omega) (by omega) q)), show (10 : Int32) = nI 10 from rfl, nI_add, ck_n _ (by omega) (by omega), nI_clamp (by omega), c104, cx2, e9_has (by omega) (by omega), pn_bs]
          rcases hbad with q | q
          · exact absurd q cxy
          · rw [q, if_z1, h61]
    by_cases hb2 : x = y ∨ (cl x).testBit y = true
    · obtain ⟨fn', t', x1, x2, B8, B9, g1, g2, g3, g4, g5, g6⟩ := hbad hb2
      exact ⟨fn', t', x1, x2, B8, B9, g1, g2, g3, g4, g5, fun q => absurd q g6⟩
    · rw [not_or] at hb2
      obtain ⟨hxy, hbit⟩ := hb2
      have hbit' : (cl x).testBit y = false := by
        cases q : (cl x).testBit y
        · rfl
        · exact absurd q hbit
      refine ⟨0, t2, nI x, nI y, B2, gst (gst (gst C2 104 (10 + x) (nI (cl x ||| 2 ^ y))) 104 (10 + y) (nI (cl y ||| 2 ^ x))) 108 5 (nI (nc + 1)), ?_, ?_, z_gst (z_gst (z_gst b3 (by omega) (by omega)) (by omega) (by omega)) (by omega) (by omega), fr8_t a4 b4, fun k j n1 n2 n3 => ?_, fun _ => ⟨x1, by omega, x, y, hxn, hyn, hxy, hbit', rfl, rfl, ?_, fun p hp => ?_⟩⟩
      · rw [hread, if_neg (fun q => hxy (nI_inj (by omega) (by omega) q)), e14_isClash hn e8' hxn (by omega) (by rw [c21]; exact cx1) (by omega), pn_bs, hbit', if_z0]
      · rw [htake, e18, if_pos (show nI 0 = (0 : Int32) from rfl), if_neg (fun q => hxy (nI_inj (by omega) (by omega) q)), show (10 : Int32) = nI 10 from rfl, nI_add, ck_n _ (by omega) (by omega), nI_clamp (by omega), c104, cx2, e9_has (by omega) (by omega), pn_bs, hbit', if_z0]
        unfold f_X9_takeClash_b62
        have ew := e9_want_1 (M := C2) (w := C2 95 16) (n := 4) e18
        rw [show (1 : Int32) = nI 1 from rfl, ew, pn_bs, if_neg (by show ¬ nI 1 = nI 0; decide)]
        have o1 := pl_or (cl x) (2 ^ y)
        have o2 := pl_or (cl y) (2 ^ x)
        simp (disch := omega) only [pn_lt, pn_ltM, pl_ofN, ↓pl_m1, pl_lit, fa_litL, pn_bs, ck_n, ckh_n, ck_t, ckh_t, nI_add, nI_clamp, nI_ltI, nI_leI, nI_eq, m1_eq, m1_eq2, m1_lt, m1_le, m1_lt2, m1_le2, m1_m1, nI_m1, nI_subn, gb_n, Nat.add_zero, Nat.zero_add, Nat.zero_or, Nat.or_zero, nle_f, nle_t, nlt_f, nlt_t, neq_f, neq_t, Bool.false_eq_true, eq_self, if_true, if_false, ite_true, ite_false, and_true, true_and, and_false, false_and, decide_true, decide_false, Bool.and_true, Bool.true_and, Bool.and_false, Bool.false_and, Bool.or_false, Bool.false_or, Bool.or_true, Bool.true_or, Bool.not_true, Bool.not_false, not_true_eq_false, not_false_eq_true, gst_v, c104, cx2, cy2, nI_shl', e5', o1, o2]
      · rw [gst_v, if_neg (by omega), gst_v, if_neg (by omega), gst_v, if_neg (by omega), s2 _ _ n1, s1 _ _ n1]
      · rw [gst_v, if_pos ⟨rfl, rfl⟩]
      · rw [gst_v, if_neg (by omega), gst_v]
        by_cases q : p = y
        · rw [if_pos ⟨rfl, by omega⟩, if_pos q]
        · rw [if_neg (by omega), if_neg q, gst_v]
          by_cases q2 : p = x
          · rw [if_pos ⟨rfl, by omega⟩, if_pos q2]
          · rw [if_neg (by omega), if_neg q2, c104]
            exact (hcl p hp).2.1
  · have e18 : C2 95 18 = nI f2 := b3.2.2.2.2.1
    have f24 := b3.2.2.1
    refine ⟨f2, t2, p8, q8, B2, C2, ?_, ?_, b3, fr8_t a4 b4, fun k j n1 _ _ => by rw [s2 _ _ n1, s1 _ _ n1], fun q => absurd q c⟩
    · have h66 : f_X3_readClash_b66 F p8 q8 B2 = f_X3_readClash_b75 F p8 q8 B2 := by
        unfold f_X3_readClash_b66
        rw [z_fail8 b3 c, pn_bs]
      rw [hread, h66]
      by_cases q : p8 = q8
      · rw [if_pos q]
      · obtain ⟨r, hr⟩ := e14_isClash_any hn e8' p8 q8
        rw [if_neg q, hr, pn_bs, ite_self]
    · rw [htake, e18, if_neg (by rw [show (0 : Int32) = nI 0 from rfl, nI_eq (by omega) (by omega)]; exact c)]
end EV
