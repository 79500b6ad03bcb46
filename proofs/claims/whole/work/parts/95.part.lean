/-! the clause of a part -/
theorem fr9_s {M M' : gM} (h : fr9 M M') (k j : Nat) (q : ¬ (k = 95 ∧ 15 ≤ j ∧ j ≤ 19)) : M' k j = M k j := by
  by_cases e : k = 95
  · subst e
    exact h.2 j (by omega)
  · rw [h.1 k e]
theorem z_gst {T : Nat → Nat} {tl : Nat} {M8 M9 : gM} {fn t : Nat} (h : zR T tl M8 M9 fn t) {k i : Nat} {v : Int32} (hk : k ≠ 95) (hk2 : k ≠ 109) : zR T tl M8 (gst M9 k i v) fn t := by
  obtain ⟨h8, h9, h4, e8, e9, ep, ht, et, e0⟩ := h
  refine ⟨h8, ⟨?_, fun j hj => ?_⟩, h4, e8, ?_, ?_, ht, et, fun q => ⟨?_, ?_⟩⟩
  · rw [gst_ne _ _ _ _ hk.symm]; exact h9.1
  · rw [gst_ne _ _ _ _ hk2.symm]; exact h9.2 j hj
  · rw [gst_ne _ _ _ _ hk.symm]; exact e9
  · rw [gst_ne _ _ _ _ hk.symm]; exact ep
  · rw [gst_ne _ _ _ _ hk.symm]; exact (e0 q).1
  · rw [gst_ne _ _ _ _ hk.symm]; exact (e0 q).2
/-- pair of numbers, the latter at least the former -/
theorem z_pair {T : Nat → Nat} {tl : Nat} {M8 M9 : gM} {fn t : Nat} (h : zR T tl M8 M9 fn t) {a8 b8 a9 b9 : Int32} (hv : fn = 0 → a8 = a9 ∧ b8 = b9) {ρ : Type} (K : gM → Option ρ) :
    ∃ fn' A8 A9 g, (if a8 ≤ b8 then K M8 else (f_X3_fail (4 : Int32) (M8 25 3) M8).bind fun r => K r) = K A8 ∧ f_X9_want (if b9 < a9 then (0 : Int32) else 1) (4 : Int32) (M9 95 16) M9 = some (g, A9) ∧ zR T tl A8 A9 fn' t ∧ fr8 M8 A8 ∧ fr9 M9 A9 ∧ (fn' = 0 → fn = 0 ∧ a8 ≤ b8 ∧ A8 = M8 ∧ A9 = M9) := by
  by_cases c : fn = 0
  · subst c
    obtain ⟨v1, v2⟩ := hv rfl
    subst v1; subst v2
    by_cases c2 : a8 ≤ b8
    · refine ⟨0, M8, M9, nI 1, ?_, ?_, h, fr8_r _, fr9_r _, fun _ => ⟨rfl, c2, rfl, rfl⟩⟩
      · rw [if_pos c2]
      · have e : ¬ b8 < a8 := fun q => (fa_of_lt q).2.1 c2
        rw [if_neg e]
        exact e9_want_1 h.2.2.2.2.1
    · obtain ⟨fn', A8, A9, r1, r2, r3, r4, r5, r6, -⟩ := z_fail (num := 4) h (by omega) (by omega) (w8 := M8 25 3) (w9 := M9 95 16) (fun _ => (h.2.2.2.2.2.2.2.2 rfl).2)
      refine ⟨fn', A8, A9, nI 0, ?_, ?_, r3, r4, r5, fun q => absurd q r6⟩
      · rw [if_neg c2, show (4 : Int32) = nI 4 from rfl, r1, pn_bs]
      · rw [if_pos (fa_of_nle c2)]
        exact r2
  · refine ⟨fn, M8, M9, nI 0, ?_, ?_, h, fr8_r _, fr9_r _, fun q => absurd q c⟩
    · rw [z_fail8 h c, pn_bs, ite_self]
    · exact e9_want_f h.2.2.2.2.1 (by omega) h.2.2.1
section EV
variable {T : Nat → Nat} {tl F : Nat} {M8 M9 A8 A9 : gM}
theorem z_part5 (hF : 4000 ≤ F) (hb : xTb T tl) {fn t n : Nat} {v1 s0 g : Int32} (hk : f_X3_readKind F M8 = some (v1, A8)) (hm : f_X9_want s0 (1 : Int32) (M9 95 16) M9 = some (g, A9)) (hz : zR T tl A8 A9 fn t) (hn : n < 10) (h108 : A9 108 4 = nI n) :
    ∃ fn' t' x2 x3 x4 x5 x6 B8 B9, f_X3_readPart_b21 F M8 = f_X3_readPart_b79 F v1 x2 x3 x4 x5 x6 B8 ∧ f_X9_takePart_b100 F (nI (10 + n)) s0 M9 = some B9 ∧ zR T tl B8 B9 fn' t' ∧ fr8 A8 B8 ∧
      (∀ k j, ¬ (k = 95 ∧ 15 ≤ j ∧ j ≤ 19) → ¬ (99 ≤ k ∧ k ≤ 104 ∧ j = 10 + n) → ¬ (k = 108 ∧ j = 4) → B9 k j = A9 k j) ∧ B9 108 4 = nI (n + 1) ∧
      (fn' = 0 → fn = 0 ∧ t ≤ t' ∧ B9 104 (10 + n) = nI 0 ∧ ∃ l w p a b, l ≤ 3 ∧ w ≤ 9 ∧ p ≤ 99 ∧ a ≤ 11 ∧ b ≤ 11 ∧ a ≤ b ∧ x2 = nI l ∧ x3 = nI w ∧ x4 = nI p ∧ x5 = nI a ∧ x6 = nI b ∧ B9 99 (10 + n) = nI l ∧ B9 100 (10 + n) = nI w ∧ B9 101 (10 + n) = nI p ∧ B9 102 (10 + n) = nI a ∧ B9 103 (10 + n) = nI b) := by
  obtain ⟨f1, t1, p8, p9, B1, C1, a1, a2, a3, a4, a5, a6, a7⟩ := z_num hF hb hz 3
  have z1 := z_gst (k := 99) (i := 10 + n) (v := p9) a3 (by omega) (by omega)
  obtain ⟨f2, t2, q8, q9, B2, C2, b1, b2, b3, b4, b5, b6, b7⟩ := z_num hF hb z1 9
  have z2 := z_gst (k := 100) (i := 10 + n) (v := q9) b3 (by omega) (by omega)
  obtain ⟨f3, t3, r8, r9, B3, C3, c1, c2, c3, c4, c5, c6, c7⟩ := z_num hF hb z2 99
  have z3 := z_gst (k := 101) (i := 10 + n) (v := r9) c3 (by omega) (by omega)
  obtain ⟨f4, t4, s8, s9, B4, C4, d1, d2, d3, d4, d5, d6, d7⟩ := z_num hF hb z3 11
  have z4 := z_gst (k := 102) (i := 10 + n) (v := s9) d3 (by omega) (by omega)
  obtain ⟨f5, t5, u8, u9, B5, C5, e1, e2, e3, e4, e5, e6, e7⟩ := z_num hF hb z4 11
  have z5 := z_gst (k := 103) (i := 10 + n) (v := u9) e3 (by omega) (by omega)
  obtain ⟨f6, B6, C6, g6, h1, h2, h3, h4, h5, h6⟩ := z_pair z5 (a8 := s8) (b8 := u8) (a9 := s9) (b9 := u9) (fun q => by
    obtain ⟨q1, -, v, -, w1, w2, -⟩ := e7 q
    obtain ⟨-, -, v', -, w3, w4, -⟩ := d7 q1
    exact ⟨w3.trans w4.symm, w1.trans w2.symm⟩) (fun r => f_X3_readPart_b79 F v1 p8 q8 r8 s8 u8 r)
  have z6 := z_gst (k := 104) (i := 10 + n) (v := nI 0) h3 (by omega) (by omega)
  have z7 := z_gst (k := 108) (i := 4) (v := nI (n + 1)) z6 (by omega) (by omega)
  have s1 := fr9_s a5
  have s2 := fr9_s b5
  have s3 := fr9_s c5
  have s4 := fr9_s d5
  have s5 := fr9_s e5
  have s6 := fr9_s h5
  have e108 : C6 108 4 = nI n := by
    rw [s6 _ _ (by omega), gst_v, if_neg (by omega), s5 _ _ (by omega), gst_v, if_neg (by omega), s4 _ _ (by omega), gst_v, if_neg (by omega), s3 _ _ (by omega), gst_v, if_neg (by omega), s2 _ _ (by omega), gst_v, if_neg (by omega), s1 _ _ (by omega), h108]
  have v103 : gst C5 103 (10 + n) u9 103 (10 + n) = u9 := by rw [gst_v, if_pos ⟨rfl, rfl⟩]
  have v102 : gst C5 103 (10 + n) u9 102 (10 + n) = s9 := by rw [gst_v, if_neg (by omega), s5 _ _ (by omega), gst_v, if_pos ⟨rfl, rfl⟩]
  refine ⟨f6, t5, p8, q8, r8, s8, u8, B6, gst (gst C6 104 (10 + n) (nI 0)) 108 4 (nI (n + 1)), ?_, ?_, z7, ?_, ?_, ?_, ?_⟩
  · unfold f_X3_readPart_b21
    rw [hk, pn_bs, pn_lt]
    dsimp only
    rw [a1, pn_bs, pn_lt]
    dsimp only
    rw [b1, pn_bs, pn_lt]
    dsimp only
    rw [c1, pn_bs, pn_lt]
    dsimp only
    rw [d1, pn_bs, pn_lt]
    dsimp only
    rw [e1, pn_bs, pn_lt]
    dsimp only
    exact h1
  · unfold f_X9_takePart_b100 f_X9_takePart_b194
    have en : nI (10 + n) = nI (10 + n) := rfl
    have hx : ∀ {ρ : Type} (o : Option ρ), ck (ib (nI (10 + n)) 20) o = o := fun o => ck_n o (by omega) (by omega)
    have hc : (nI (10 + n)).toNatClampNeg = 10 + n := nI_clamp (by omega)
    rw [hm, pn_bs, pn_lt]
    dsimp only
    rw [show (0 : Int32) = nI 0 from rfl, a2, pn_bs, hx, hc, pn_ltM]
    dsimp only
    rw [b2, pn_bs, hx, pn_ltM]
    dsimp only
    rw [c2, pn_bs, hx, pn_ltM]
    dsimp only
    rw [d2, pn_bs, hx, pn_ltM]
    dsimp only
    rw [e2, pn_bs, hx, pn_ltM, hx, hx, v103, v102]
    have hfin : ∀ g0 : Int32, f_X9_want g0 4 (gst C5 103 (10 + n) u9 95 16) (gst C5 103 (10 + n) u9) = some (g6, C6) → ((f_X9_want g0 4 (gst C5 103 (10 + n) u9 95 16) (gst C5 103 (10 + n) u9)).bind fun r19 => lt_ r19.1 fun v20 => ck (ib (nI (10 + n)) 20) (ltM (gst r19.2 104 (10 + n) (nI 0)) fun M21 => ck (ib (4 : Int32) 8) (ck (ib (4 : Int32) 8) (ltM (gst M21 108 (4 : Int32).toNatClampNeg ((M21 108 (4 : Int32).toNatClampNeg) + (1 : Int32))) fun M22 => some M22)))) = some (gst (gst C6 104 (10 + n) (nI 0)) 108 4 (nI (n + 1))) := by
      intro g0 hg0
      rw [hg0, pn_bs, pn_lt, hx, pn_ltM]
      simp (disch := omega) only [pn_lt, pn_ltM, pl_ofN, ↓pl_m1, pl_lit, fa_litL, pn_bs, ck_n, ckh_n, ck_t, ckh_t, nI_add, nI_clamp, nI_ltI, nI_leI, nI_eq, m1_eq, m1_eq2, m1_lt, m1_le, m1_lt2, m1_le2, m1_m1, nI_m1, nI_subn, gb_n, Nat.add_zero, Nat.zero_add, Nat.zero_or, Nat.or_zero, nle_f, nle_t, nlt_f, nlt_t, neq_f, neq_t, Bool.false_eq_true, eq_self, if_true, if_false, ite_true, ite_false, and_true, true_and, and_false, false_and, decide_true, decide_false, Bool.and_true, Bool.true_and, Bool.and_false, Bool.false_and, Bool.or_false, Bool.false_or, Bool.or_true, Bool.true_or, Bool.not_true, Bool.not_false, not_true_eq_false, not_false_eq_true, gst_v, e108]
    by_cases cc : u9 < s9
    · rw [if_pos cc] at h2 ⊢
      exact hfin _ h2
    · rw [if_neg cc] at h2 ⊢
      exact hfin _ h2
  · exact fr8_t a4 (fr8_t b4 (fr8_t c4 (fr8_t d4 (fr8_t e4 h4))))
  · intro k j n1 n2 n3
    rw [gst_v, if_neg (by omega), gst_v, if_neg (by omega), s6 _ _ n1, gst_v, if_neg (by omega), s5 _ _ n1, gst_v, if_neg (by omega), s4 _ _ n1, gst_v, if_neg (by omega), s3 _ _ n1, gst_v, if_neg (by omega), s2 _ _ n1, gst_v, if_neg (by omega), s1 _ _ n1]
  · rw [gst_v, if_pos ⟨rfl, rfl⟩]
  · intro q
    obtain ⟨y1, y2, y3, y4⟩ := h6 q
    obtain ⟨w5, m5, u, hu9, u1, u2, u3⟩ := e7 y1
    obtain ⟨w4, m4, s, hs9, s1', s2', s3'⟩ := d7 w5
    obtain ⟨w3, m3, r, hr9, r1, r2, r3⟩ := c7 w4
    obtain ⟨w2, m2, q', hq9, q1, q2, q3⟩ := b7 w3
    obtain ⟨w1, m1', p, hp9, p1, p2, p3⟩ := a7 w2
    rw [show (11 : Int32) = nI 11 from rfl, nI_leI (by omega) (by omega)] at u3 s3'
    rw [show (99 : Int32) = nI 99 from rfl, nI_leI (by omega) (by omega)] at r3
    rw [show (9 : Int32) = nI 9 from rfl, nI_leI (by omega) (by omega)] at q3
    rw [show (3 : Int32) = nI 3 from rfl, nI_leI (by omega) (by omega)] at p3
    rw [u1, s1', nI_leI (by omega) (by omega)] at y2
    refine ⟨w1, by omega, ?_, p, q', r, s, u, p3, q3, r3, s3', u3, y2, p1, q1, r1, s1', u1, ?_, ?_, ?_, ?_, ?_⟩
    · rw [gst_v, if_neg (by omega), gst_v, if_pos ⟨rfl, rfl⟩]
    · rw [gst_v, if_neg (by omega), gst_v, if_neg (by omega), s6 _ _ (by omega), gst_v, if_neg (by omega), s5 _ _ (by omega), gst_v, if_neg (by omega), s4 _ _ (by omega), gst_v, if_neg (by omega), s3 _ _ (by omega), gst_v, if_neg (by omega), s2 _ _ (by omega), gst_v, if_pos ⟨rfl, rfl⟩, p2]
    · rw [gst_v, if_neg (by omega), gst_v, if_neg (by omega), s6 _ _ (by omega), gst_v, if_neg (by omega), s5 _ _ (by omega), gst_v, if_neg (by omega), s4 _ _ (by omega), gst_v, if_neg (by omega), s3 _ _ (by omega), gst_v, if_pos ⟨rfl, rfl⟩, q2]
    · rw [gst_v, if_neg (by omega), gst_v, if_neg (by omega), s6 _ _ (by omega), gst_v, if_neg (by omega), s5 _ _ (by omega), gst_v, if_neg (by omega), s4 _ _ (by omega), gst_v, if_pos ⟨rfl, rfl⟩, r2]
    · rw [gst_v, if_neg (by omega), gst_v, if_neg (by omega), s6 _ _ (by omega), gst_v, if_neg (by omega), s5 _ _ (by omega), gst_v, if_pos ⟨rfl, rfl⟩, s2']
    · rw [gst_v, if_neg (by omega), gst_v, if_neg (by omega), s6 _ _ (by omega), gst_v, if_pos ⟨rfl, rfl⟩, u2]
end EV
