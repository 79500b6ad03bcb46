/-! a clause of any kind; all clauses -/
/-- the class's clause, K behind it -/
def tl8 (F : Nat) (K : gM → Option (Int32 × gM)) (M : gM) : Option (Int32 × gM) :=
  (f_X3_readWord F M).bind fun r6 =>
  (f_X6_stands F 0 (r6 25 3) (r6 25 2) r6).bind fun r7 =>
  if r7 = 0 then
    (f_X6_stands F 1 (r6 25 3) (r6 25 2) r6).bind fun r8 =>
    if r8 = 0 then
      (f_X6_stands F 2 (r6 25 3) (r6 25 2) r6).bind fun r9 =>
      if r9 = 0 then
        (f_X3_fail (1 : Int32) (r6 25 3) r6).bind fun r10 =>
        (f_X3_skipBlanks F r10).bind fun r11 =>
        K r11
      else
        (f_X3_readScene F r6).bind fun r12 =>
        (f_X3_skipBlanks F r12).bind fun r13 =>
        K r13
    else
      (f_X3_readClash F r6).bind fun r14 =>
      (f_X3_skipBlanks F r14).bind fun r15 =>
      K r15
  else
    (f_X3_readPart F r6).bind fun r16 =>
    (f_X3_skipBlanks F r16).bind fun r17 =>
    K r17
/-- the slots that the two readers leave alone -/
def fk8 (M M' : gM) : Prop := ∀ k j, ¬ (14 ≤ k ∧ k ≤ 25) → M' k j = M k j
def fk9 (M M' : gM) : Prop := ∀ k j, ¬ (k = 95 ∧ 15 ≤ j ∧ j ≤ 19) → ¬ (98 ≤ k ∧ k ≤ 104 ∧ 10 ≤ j) → ¬ (105 ≤ k ∧ k ≤ 107 ∧ 8 ≤ j) → ¬ (k = 108 ∧ 4 ≤ j) → M' k j = M k j
theorem fk8_t {A B C : gM} (h1 : fk8 A B) (h2 : fk8 B C) : fk8 A C := fun k j n => (h2 k j n).trans (h1 k j n)
theorem fk9_t {A B C : gM} (h1 : fk9 A B) (h2 : fk9 B C) : fk9 A C := fun k j a b c d => (h2 k j a b c d).trans (h1 k j a b c d)
theorem fk8_of {A B : gM} (h : fr8 A B) : fk8 A B := fun k j n => by rw [h k (by omega)]
theorem fk9_of {A B : gM} (h : fr9 A B) : fk9 A B := fun k j n _ _ _ => fr9_s h k j n
/-- the two readers side by side, but for where the latest word began -/
def zQ (T : Nat → Nat) (tl : Nat) (M8 M9 : gM) (fn t : Nat) : Prop :=
  xT8 T tl M8 ∧ xT9 T tl M9 ∧ fn ≤ 4 ∧ M8 25 4 = nI fn ∧ M9 95 18 = nI fn ∧ M8 25 5 = M9 95 19 ∧ t ≤ tl ∧ M8 25 2 = nI t ∧ (fn = 0 → M9 95 15 = nI t)
theorem zQ_of {T : Nat → Nat} {tl : Nat} {M8 M9 : gM} {fn t : Nat} (h : zR T tl M8 M9 fn t) : zQ T tl M8 M9 fn t := by
  obtain ⟨h8, h9, h4, e8, e9, ep, ht, et, e0⟩ := h
  exact ⟨h8, h9, h4, e8, e9, ep, ht, et, fun q => (e0 q).1⟩
theorem z_wordQ {T : Nat → Nat} {tl F : Nat} {M8 M9 : gM} (hF : 4000 ≤ F) (hb : xTb T tl) {t : Nat} (h : zQ T tl M8 M9 0 t) : ∃ s e A8 A9, f_X3_readWord F M8 = some A8 ∧ f_X9_takeWord F M9 = some A9 ∧ zR T tl A8 A9 0 e ∧ fr8 M8 A8 ∧ fr9 M9 A9 ∧ t ≤ s ∧ s ≤ e ∧ A8 25 3 = nI s ∧ A9 95 16 = nI s ∧ A9 95 17 = nI (e - s) := by
  obtain ⟨h8, h9, h4, e8, e9, ep, ht, et, e0⟩ := id h
  have et9 := e0 rfl
  obtain ⟨A8, r1, r2, r3, r4, r5⟩ := e3_readWord hF hb h8 ht et
  obtain ⟨A9, s1, s2, s3, s4, s5, s6⟩ := e9_takeWord hF hb h9 ht et9
  have hsl := sc_le (blB T) ht
  have hsg := sc_ge (blB T) ht
  have hel := sc_le (leB T) hsl
  have heg := sc_ge (leB T) hsl
  refine ⟨_, _, A8, A9, r1, s1, ⟨xT8_25 h8 r2, xT9_95 h9 s2 (fun j hj => s3 j (by omega) (by omega) (by omega)), by omega, by rw [r3 _ (by omega) (by omega), e8], by rw [s3 _ (by omega) (by omega) (by omega), e9], by rw [r3 _ (by omega) (by omega), s3 _ (by omega) (by omega) (by omega), ep], hel, r5, fun _ => ⟨s5, by rw [r4, s4]⟩⟩, r2, ⟨s2, fun j hj => s3 j (by omega) (by omega) (by omega)⟩, hsg, heg, r4, s4, s6⟩
section EV
variable {T : Nat → Nat} {tl F : Nat} {M8 M9 : gM}
theorem zE_frs {E : Nat → Nat → Nat} {A8 A9 : gM} (h : zE E M8 M9) (f8 : fr8 M8 A8) (f9 : fr9 M9 A9) : zE E A8 A9 :=
  zE_fr h (fun k j h1 h2 => by rw [f8 k (by omega)]) (fun k j h1 h2 => by rw [f9.1 k (by omega)])
theorem zc_all (hF : 4000 ≤ F) (hb : xTb T tl) {t : Nat} {E : Nat → Nat → Nat} (hz : zQ T tl M8 M9 0 t) (hE : zE E M8 M9) (hB : zB E) :
    ∃ fn' t' A8 A9 E', (∀ K, tl8 F K M8 = (f_X3_skipBlanks F A8).bind K) ∧ (∀ K, (f_X9_takeClause F M9).bind (tlK F K) = K A9) ∧ zR T tl A8 A9 fn' t' ∧ fk8 M8 A8 ∧ fk9 M9 A9 ∧ (fn' = 0 → t < t' ∧ zE E' A8 A9 ∧ zB E') := by
  obtain ⟨s, e, C8, C9, r1, r2, z1, f8, f9, hts, hse, c3, c16, c17⟩ := z_wordQ hF hb hz
  have hel := z1.2.2.2.2.2.2.1
  have e2 : C8 25 2 = nI e := z1.2.2.2.2.2.2.2.1
  have hE1 := zE_frs hE f8 f9
  have w0 := e6_stands hF hb z1.1 (k := 0) (by omega) hse hel
  have w1 := e6_stands hF hb z1.1 (k := 1) (by omega) hse hel
  have w2 := e6_stands hF hb z1.1 (k := 2) (by omega) hse hel
  have v0 := e9_isWord hF hb z1.2.1 (k := 0) (g := 0) (by omega) hse hel c16 c17 rfl rfl rfl rfl (fun q => absurd q (by decide))
  have v1 := e9_isWord hF hb z1.2.1 (k := 1) (by omega) hse hel c16 c17 rfl rfl rfl rfl (fun _ => rfl)
  have v2 := e9_isWord hF hb z1.2.1 (k := 2) (by omega) hse hel c16 c17 rfl rfl rfl rfl (fun _ => rfl)
  have hL0 : nI (wl 0).length = (4 : Int32) := rfl
  have hL1 : nI (wl 1).length = (5 : Int32) := rfl
  have hL2 : nI (wl 2).length = (5 : Int32) := rfl
  rw [hL0] at v0
  rw [hL1] at v1
  rw [hL2] at v2
  have h18 : C9 95 18 = nI 0 := z1.2.2.2.2.1
  have htk : f_X9_takeClause F M9 = (f_X9_isWord F (4 : Int32) (112 : Int32) (97 : Int32) (114 : Int32) (116 : Int32) (0 : Int32) C9).bind fun r3 =>
      if r3 = 0 then
        (f_X9_isWord F (5 : Int32) (99 : Int32) (108 : Int32) (97 : Int32) (115 : Int32) (104 : Int32) C9).bind fun r4 =>
        if r4 = 0 then
          (f_X9_isWord F (5 : Int32) (115 : Int32) (99 : Int32) (101 : Int32) (110 : Int32) (101 : Int32) C9).bind fun r5 =>
          (f_X9_want r5 (1 : Int32) (C9 95 16) C9).bind fun r6 =>
          if r6.1 = 0 then
            some r6.2
          else
            f_X9_takeClause_b150 F (C9 95 16) (if (8 : Int32) ≤ r6.2 108 6 then 0 else 1) r6.2
        else
          f_X9_takeClause_b93 F (C9 95 16) (if (15 : Int32) ≤ C9 108 5 then 0 else 1) C9
      else
        f_X9_takeClause_b43 F (C9 95 16) (if (10 : Int32) ≤ C9 108 4 then 0 else 1) C9 := by
    unfold f_X9_takeClause
    rw [r2, pn_bs, pn_lt]
    have x4 : ∀ (o : Option gM), ck (ib (4 : Int32) 8) o = o := fun o => ck_n (k := 4) (n := 8) o (by omega) (by omega)
    have x5 : ∀ (o : Option gM), ck (ib (5 : Int32) 8) o = o := fun o => ck_n (k := 5) (n := 8) o (by omega) (by omega)
    have x6 : ∀ (o : Option gM), ck (ib (6 : Int32) 8) o = o := fun o => ck_n (k := 6) (n := 8) o (by omega) (by omega)
    have y4 : (4 : Int32).toNatClampNeg = 4 := rfl
    have y5 : (5 : Int32).toNatClampNeg = 5 := rfl
    have y6 : (6 : Int32).toNatClampNeg = 6 := rfl
    rw [x4, x5, y4, y5, y6]
    have hp : (if (10 : Int32) ≤ C9 108 4 then f_X9_takeClause_b43 F (C9 95 16) (0 : Int32) C9 else f_X9_takeClause_b43 F (C9 95 16) (1 : Int32) C9) = f_X9_takeClause_b43 F (C9 95 16) (if (10 : Int32) ≤ C9 108 4 then 0 else 1) C9 := by
      split <;> rfl
    have hc : (if (15 : Int32) ≤ C9 108 5 then f_X9_takeClause_b93 F (C9 95 16) (0 : Int32) C9 else f_X9_takeClause_b93 F (C9 95 16) (1 : Int32) C9) = f_X9_takeClause_b93 F (C9 95 16) (if (15 : Int32) ≤ C9 108 5 then 0 else 1) C9 := by
      split <;> rfl
    have hs : ∀ N : gM, ck (ib (6 : Int32) 8) (if (8 : Int32) ≤ N 108 6 then f_X9_takeClause_b150 F (C9 95 16) (0 : Int32) N else f_X9_takeClause_b150 F (C9 95 16) (1 : Int32) N) = f_X9_takeClause_b150 F (C9 95 16) (if (8 : Int32) ≤ N 108 6 then 0 else 1) N := fun N => by
      rw [x6]
      split <;> rfl
    rw [hp, hc]
    simp only [hs]
  have hfin : ∀ (o8 : Option gM) (o9 : (gM → Option (Int32 × gM)) → Option (Int32 × gM)), zCR T tl e C8 C9 o8 o9 → (∀ K, tl8 F K M8 = o8.bind fun r => (f_X3_skipBlanks F r).bind K) → (∀ K, (f_X9_takeClause F M9).bind (tlK F K) = o9 K) →
      ∃ fn' t' A8 A9 E', (∀ K, tl8 F K M8 = (f_X3_skipBlanks F A8).bind K) ∧ (∀ K, (f_X9_takeClause F M9).bind (tlK F K) = K A9) ∧ zR T tl A8 A9 fn' t' ∧ fk8 M8 A8 ∧ fk9 M9 A9 ∧ (fn' = 0 → t < t' ∧ zE E' A8 A9 ∧ zB E') := by
    rintro o8 o9 ⟨fn', t', A8, A9, E', p1, p2, p3, p4, p5, p6⟩ hk8 hk9
    refine ⟨fn', t', A8, A9, E', fun K => ?_, fun K => (hk9 K).trans (p2 K), p3, fk8_t (fk8_of f8) p4, fk9_t (fk9_of f9) p5, fun q => ?_⟩
    · rw [hk8 K, p1, pn_bs]
    · obtain ⟨q1, q2, q3⟩ := p6 q
      exact ⟨by omega, q2, q3⟩
  cases q0 : wdB T (wl 0) s e
  · cases q1 : wdB T (wl 1) s e
    · cases q2 : wdB T (wl 2) s e
      · -- no such word
        obtain ⟨fn', A8, A9, a1, a2, a3, a4, a5, a6, -⟩ := z_fail (num := 1) z1 (by omega) (by omega) (w8 := C8 25 3) (w9 := C9 95 16) (fun _ => by rw [c3, c16])
        refine ⟨fn', e, A8, A9, E, fun K => ?_, fun K => ?_, a3, fk8_t (fk8_of f8) (fk8_of a4), fk9_t (fk9_of f9) (fk9_of a5), fun q => absurd q a6⟩
        · unfold tl8
          rw [r1, pn_bs, c3, e2, w0, q0, pn_bs, if_z0, w1, q1, pn_bs, if_z0, w2, q2, pn_bs, if_z0]
          rw [c3] at a1
          rw [show (1 : Int32) = nI 1 from rfl, a1, pn_bs]
        · rw [htk]
          rw [show (112 : Int32) = nI 112 from rfl] at *
          rw [show f_X9_isWord F (4 : Int32) (nI 112) (97 : Int32) (114 : Int32) (116 : Int32) (0 : Int32) C9 = _ from v0, q0, pn_bs, if_z0, show f_X9_isWord F (5 : Int32) (99 : Int32) (108 : Int32) (97 : Int32) (115 : Int32) (104 : Int32) C9 = _ from v1, q1, pn_bs, if_z0, show f_X9_isWord F (5 : Int32) (115 : Int32) (99 : Int32) (101 : Int32) (110 : Int32) (101 : Int32) C9 = _ from v2, q2, pn_bs]
          have a2' : f_X9_want (nI (if false = true then 1 else 0)) (1 : Int32) (C9 95 16) C9 = some (nI 0, A9) := a2
          rw [a2', pn_bs, if_pos (show (nI 0, A9).fst = (0 : Int32) from rfl), pn_bs, z_flt_K a3 a6]
      · refine hfin _ _ (zc_scene hF hb z1 hE1 hB) (fun K => ?_) (fun K => ?_)
        · unfold tl8
          rw [r1, pn_bs, c3, e2, w0, q0, pn_bs, if_z0, w1, q1, pn_bs, if_z0, w2, q2, pn_bs, if_z1]
        · rw [htk, show f_X9_isWord F (4 : Int32) (112 : Int32) (97 : Int32) (114 : Int32) (116 : Int32) (0 : Int32) C9 = _ from v0, q0, pn_bs, if_z0, show f_X9_isWord F (5 : Int32) (99 : Int32) (108 : Int32) (97 : Int32) (115 : Int32) (104 : Int32) C9 = _ from v1, q1, pn_bs, if_z0, show f_X9_isWord F (5 : Int32) (115 : Int32) (99 : Int32) (101 : Int32) (110 : Int32) (101 : Int32) C9 = _ from v2, q2, pn_bs]
          have ew : f_X9_want (nI (if true = true then 1 else 0)) (1 : Int32) (C9 95 16) C9 = some (nI 1, C9) := e9_want_1 h18
          rw [ew, pn_bs, if_neg (show ¬ (nI 1, C9).fst = (0 : Int32) by show ¬ nI 1 = nI 0; decide)]
    · refine hfin _ _ (zc_clash hF hb z1 hE1 hB) (fun K => ?_) (fun K => ?_)
      · unfold tl8
        rw [r1, pn_bs, c3, e2, w0, q0, pn_bs, if_z0, w1, q1, pn_bs, if_z1]
      · rw [htk, show f_X9_isWord F (4 : Int32) (112 : Int32) (97 : Int32) (114 : Int32) (116 : Int32) (0 : Int32) C9 = _ from v0, q0, pn_bs, if_z0, show f_X9_isWord F (5 : Int32) (99 : Int32) (108 : Int32) (97 : Int32) (115 : Int32) (104 : Int32) C9 = _ from v1, q1, pn_bs, if_z1]
  · refine hfin _ _ (zc_part hF hb z1 hE1 hB) (fun K => ?_) (fun K => ?_)
    · unfold tl8
      rw [r1, pn_bs, c3, e2, w0, q0, pn_bs, if_z1]
    · rw [htk, show f_X9_isWord F (4 : Int32) (112 : Int32) (97 : Int32) (114 : Int32) (116 : Int32) (0 : Int32) C9 = _ from v0, q0, pn_bs, if_z1]
/-- all clauses, when there is a fault already -/
theorem z_loop_f (hF : 4000 ≤ F) (hb : xTb T tl) {fn t n m x1 : Nat} (hz : zQ T tl M8 M9 fn t) (c : fn ≠ 0) (hx : x1 < 2 ^ 31) :
    ∃ t' A8, (f_X3_skipBlanks F M8).bind (fun M => f_X3_readTown_h28 F (n + 1) (nI x1) M) = some (nI fn, A8) ∧ f_X9_town_h37 F (m + 1) M9 = f_X9_town_b101 F M9 ∧ zQ T tl A8 M9 fn t' ∧ fk8 M8 A8 := by
  obtain ⟨h8, h9, h4, e8, e9, ep, ht, et, e0⟩ := id hz
  obtain ⟨B8, r1, r2, r3, r4⟩ := e3_skip hF hb h8 ht et
  have h400 := hb.1
  have hsl := sc_le (blB T) ht
  have e4 : B8 25 4 = nI fn := by rw [r3 _ (by omega), e8]
  have f0 : ¬ nI fn = (0 : Int32) := fun q => c (nI_inj (by omega) (by omega) q)
  refine ⟨sc (blB T) tl t, B8, ?_, ?_, ⟨xT8_25 h8 r2, h9, h4, e4, e9, by rw [r3 _ (by omega), ep], hsl, r4, fun q => absurd q c⟩, fk8_of r2⟩
  · rw [r1, pn_bs]
    show f_X3_readTown_h28_b F _ _ _ = _
    unfold f_X3_readTown_h28_b
    rw [e4]
    by_cases c1 : (400 : Int32) ≤ nI x1
    · rw [if_pos c1]
    · rw [if_neg c1]
      by_cases c2 : B8 1 1 ≤ B8 25 2
      · rw [if_pos c2]
      · rw [if_neg c2, if_neg f0]
  · show f_X9_town_h37_b F _ _ = _
    unfold f_X9_town_h37_b
    rw [e9, if_neg f0]
theorem z_loop (hF : 4000 ≤ F) (hb : xTb T tl) : ∀ (d t : Nat) (E : Nat → Nat → Nat) (M8 M9 : gM) (n m x1 : Nat), tl - t ≤ d → d < n → d < m → x1 ≤ t → zQ T tl M8 M9 0 t → zE E M8 M9 → zB E →
    ∃ fn' t' A8 A9 E', (f_X3_skipBlanks F M8).bind (fun M => f_X3_readTown_h28 F n (nI x1) M) = some (nI fn', A8) ∧ f_X9_town_h37 F m M9 = f_X9_town_b101 F A9 ∧ zQ T tl A8 A9 fn' t' ∧ fk8 M8 A8 ∧ fk9 M9 A9 ∧ (fn' = 0 → zE E' A8 A9 ∧ zB E') := by
  intro d
  induction d with
  | zero =>
    intro t E M8 M9 n m x1 hd hn hm hx hz hE hB
    obtain ⟨h8, h9, h4, e8, e9, ep, ht, et, e0⟩ := id hz
    have et9 := e0 rfl
    obtain ⟨B8, r1, r2, r3, r4⟩ := e3_skip hF hb h8 ht et
    obtain ⟨B9, s1, s2, s3, s4⟩ := e9_here hF hb h9 ht et9
    have h400 := hb.1
    have e5 : sc (blB T) tl t = tl := by rw [sc_stop (fun q => by omega)]; omega
    obtain ⟨n', rfl⟩ : ∃ n', n = n' + 1 := ⟨n - 1, by omega⟩
    obtain ⟨m', rfl⟩ : ∃ m', m = m' + 1 := ⟨m - 1, by omega⟩
    have f8 : fr8 M8 B8 := r2
    have f9 : fr9 M9 B9 := ⟨s2, fun j hj => s3 j (by omega)⟩
    have e4 : B8 25 4 = nI 0 := by rw [r3 _ (by omega), e8]
    have l8 : B8 1 1 = nI tl := by rw [r2 _ (by omega)]; exact h8.1
    rw [e5] at r4 s1 s4
    refine ⟨0, tl, B8, B9, E, ?_, ?_, ⟨xT8_25 h8 r2, xT9_fr9 h9 f9, h4, e4, by rw [s3 _ (by omega), e9], by rw [r3 _ (by omega), s3 _ (by omega), ep], Nat.le_refl _, r4, fun _ => s4⟩, fk8_of f8, fk9_of f9, fun _ => ⟨zE_frs hE f8 f9, hB⟩⟩
    · rw [r1, pn_bs]
      show f_X3_readTown_h28_b F _ _ _ = _
      unfold f_X3_readTown_h28_b
      rw [e4, l8, r4]
      by_cases c1 : (400 : Int32) ≤ nI x1
      · rw [if_pos c1]
      · rw [if_neg c1, if_pos (by rw [nI_leI (by omega) (by omega)]; omega)]
    · show f_X9_town_h37_b F _ _ = _
      unfold f_X9_town_h37_b
      rw [e9, if_pos (show nI 0 = (0 : Int32) from rfl), s1, pn_bs, if_neg (Nat.lt_irrefl tl)]
      dsimp only
      rw [if_pos (show m1 < (0 : Int32) by decide +kernel)]
  | succ d ih =>
    intro t E M8 M9 n m x1 hd hn hm hx hz hE hB
    obtain ⟨h8, h9, h4, e8, e9, ep, ht, et, e0⟩ := id hz
    have et9 := e0 rfl
    obtain ⟨B8, r1, r2, r3, r4⟩ := e3_skip hF hb h8 ht et
    obtain ⟨B9, s1, s2, s3, s4⟩ := e9_here hF hb h9 ht et9
    have h400 := hb.1
    have hsl := sc_le (blB T) ht
    have hsg := sc_ge (blB T) ht
    obtain ⟨n', rfl⟩ : ∃ n', n = n' + 1 := ⟨n - 1, by omega⟩
    obtain ⟨m', rfl⟩ : ∃ m', m = m' + 1 := ⟨m - 1, by omega⟩
    have f8 : fr8 M8 B8 := r2
    have f9 : fr9 M9 B9 := ⟨s2, fun j hj => s3 j (by omega)⟩
    have e4 : B8 25 4 = nI 0 := by rw [r3 _ (by omega), e8]
    have l8 : B8 1 1 = nI tl := by rw [r2 _ (by omega)]; exact h8.1
    have zB1 : zQ T tl B8 B9 0 (sc (blB T) tl t) := ⟨xT8_25 h8 r2, xT9_fr9 h9 f9, h4, e4, by rw [s3 _ (by omega), e9], by rw [r3 _ (by omega), s3 _ (by omega), ep], hsl, r4, fun _ => s4⟩
    have hE1 := zE_frs hE f8 f9
    generalize sc (blB T) tl t = s at *
    by_cases c : s < tl
    · obtain ⟨fn', t', A8, A9, E', p1, p2, p3, p4, p5, p6⟩ := zc_all hF hb zB1 hE1 hB
      have hl : (f_X3_skipBlanks F M8).bind (fun M => f_X3_readTown_h28 F (n' + 1) (nI x1) M) = (f_X3_skipBlanks F A8).bind (fun M => f_X3_readTown_h28 F n' (nI (x1 + 1)) M) := by
        rw [r1, pn_bs]
        show f_X3_readTown_h28_b F _ _ _ = _
        unfold f_X3_readTown_h28_b
        rw [e4, l8, r4, if_neg (by rw [show (400 : Int32) = nI 400 from rfl, nI_leI (by omega) (by omega)]; omega), if_neg (by rw [nI_leI (by omega) (by omega)]; omega), if_pos (show nI 0 = (0 : Int32) from rfl), show nI x1 + (1 : Int32) = nI (x1 + 1) from nI_add x1 1]
        exact p1 _
      have hr : f_X9_town_h37 F (m' + 1) M9 = f_X9_town_h37 F m' A9 := by
        show f_X9_town_h37_b F _ _ = _
        unfold f_X9_town_h37_b
        have hc := hb.2 s c
        rw [e9, if_pos (show nI 0 = (0 : Int32) from rfl), s1, pn_bs, if_pos c]
        dsimp only
        rw [if_neg (nI_pos (by omega))]
        exact p2 _
      rw [hl, hr]
      by_cases cf : fn' = 0
      · subst cf
        obtain ⟨q1, q2, q3⟩ := p6 rfl
        have htl := p3.2.2.2.2.2.2.1
        obtain ⟨fn2, t2, C8, C9, E2, u1, u2, u3, u4, u5, u6⟩ := ih t' E' A8 A9 n' m' (x1 + 1) (by omega) (by omega) (by omega) (by omega) (zQ_of p3) q2 q3
        exact ⟨fn2, t2, C8, C9, E2, u1, u2, u3, fk8_t (fk8_of f8) (fk8_t p4 u4), fk9_t (fk9_of f9) (fk9_t p5 u5), u6⟩
      · obtain ⟨n2, rfl⟩ : ∃ n2, n' = n2 + 1 := ⟨n' - 1, by omega⟩
        obtain ⟨m2, rfl⟩ : ∃ m2, m' = m2 + 1 := ⟨m' - 1, by omega⟩
        obtain ⟨t2, C8, u1, u2, u3, u4⟩ := z_loop_f (n := n2) (m := m2) (x1 := x1 + 1) hF hb (zQ_of p3) cf (by omega)
        exact ⟨fn', t2, C8, A9, E, u1, u2, u3, fk8_t (fk8_of f8) (fk8_t p4 u4), fk9_t (fk9_of f9) p5, fun q => absurd q cf⟩
    · have e5 : s = tl := by omega
      refine ⟨0, s, B8, B9, E, ?_, ?_, zB1, fk8_of f8, fk9_of f9, fun _ => ⟨hE1, hB⟩⟩
      · rw [r1, pn_bs]
        show f_X3_readTown_h28_b F _ _ _ = _
        unfold f_X3_readTown_h28_b
        rw [e4, l8, r4]
        by_cases c1 : (400 : Int32) ≤ nI x1
        · rw [if_pos c1]
        · rw [if_neg c1, if_pos (by rw [nI_leI (by omega) (by omega)]; omega)]
      · show f_X9_town_h37_b F _ _ = _
        unfold f_X9_town_h37_b
        rw [e9, if_pos (show nI 0 = (0 : Int32) from rfl), s1, pn_bs, if_neg c]
        dsimp only
        rw [if_pos (show m1 < (0 : Int32) by decide +kernel)]
end EV
