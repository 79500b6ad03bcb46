/-! the clause of a part: its kind -/
theorem if_z0 {α : Type} {A B : α} : (if nI (if false = true then 1 else 0) = (0 : Int32) then A else B) = A := if_pos rfl
theorem if_z1 {α : Type} {A B : α} : (if nI (if true = true then 1 else 0) = (0 : Int32) then A else B) = B := if_neg (by decide)
section EV
variable {T : Nat → Nat} {tl F : Nat} {M8 M9 A8 A9 : gM}
theorem z_takePart (hF : 4000 ≤ F) (hb : xTb T tl) {t n : Nat} (hz : zR T tl M8 M9 0 t) (hn : n < 10) (h108 : M9 108 4 = nI n) :
    ∃ fn' t' x1 x2 x3 x4 x5 x6 B8 B9, f_X3_readPart_b21 F M8 = f_X3_readPart_b79 F x1 x2 x3 x4 x5 x6 B8 ∧ f_X9_takePart F M9 = some B9 ∧ zR T tl B8 B9 fn' t' ∧ fr8 M8 B8 ∧
      (∀ k j, ¬ (k = 95 ∧ 15 ≤ j ∧ j ≤ 19) → ¬ (98 ≤ k ∧ k ≤ 104 ∧ j = 10 + n) → ¬ (k = 108 ∧ j = 4) → B9 k j = M9 k j) ∧ B9 108 4 = nI (n + 1) ∧
      (fn' = 0 → t ≤ t' ∧ B9 104 (10 + n) = nI 0 ∧ ∃ kd l w p a b, kd ≤ 2 ∧ l ≤ 3 ∧ w ≤ 9 ∧ p ≤ 99 ∧ a ≤ 11 ∧ b ≤ 11 ∧ a ≤ b ∧ x1 = nI kd ∧ x2 = nI l ∧ x3 = nI w ∧ x4 = nI p ∧ x5 = nI a ∧ x6 = nI b ∧ B9 98 (10 + n) = nI kd ∧ B9 99 (10 + n) = nI l ∧ B9 100 (10 + n) = nI w ∧ B9 101 (10 + n) = nI p ∧ B9 102 (10 + n) = nI a ∧ B9 103 (10 + n) = nI b) := by
  obtain ⟨s, e, C8, C9, r1, r2, z1, f8, f9, hts, hse, c3, c16, c17⟩ := z_word hF hb hz
  have g9 := fr9_s f9
  have hel := z1.2.2.2.2.2.2.1
  have h4 : M8 25 4 = nI 0 := hz.2.2.2.1
  have e2 : C8 25 2 = nI e := z1.2.2.2.2.2.2.2.1
  have w3 := e6_stands hF hb z1.1 (k := 3) (by omega) hse hel
  have w4 := e6_stands hF hb z1.1 (k := 4) (by omega) hse hel
  have w5 := e6_stands hF hb z1.1 (k := 5) (by omega) hse hel
  have v3 := e9_isWord hF hb z1.2.1 (k := 3) (g := 0) (by omega) hse hel c16 c17 rfl rfl rfl rfl (fun q => absurd q (by decide))
  have v4 := e9_isWord hF hb z1.2.1 (k := 4) (g := 0) (by omega) hse hel c16 c17 rfl rfl rfl rfl (fun q => absurd q (by decide))
  have v5 := e9_isWord hF hb z1.2.1 (k := 5) (by omega) hse hel c16 c17 rfl rfl rfl rfl (fun _ => rfl)
  have e108 : C9 108 4 = nI n := by rw [g9 _ _ (by omega), h108]
  have hx : ∀ {ρ : Type} (o : Option ρ), ck (ib (nI (10 + n)) 20) o = o := fun o => ck_n o (by omega) (by omega)
  have hcl : (nI (10 + n)).toNatClampNeg = 10 + n := nI_clamp (by omega)
  -- from the kind on
  have rest : ∀ (kd : Nat) (kv : Int32) (D8 D9 : gM) (fn0 : Nat) (s0 g : Int32), f_X3_readKind F M8 = some (kv, D8) →
      f_X9_want s0 (1 : Int32) (gst C9 98 (10 + n) (if kd ≤ 2 then nI kd else -1) 95 16) (gst C9 98 (10 + n) (if kd ≤ 2 then nI kd else -1)) = some (g, D9) → zR T tl D8 D9 fn0 e → fr8 M8 D8 → fr9 (gst C9 98 (10 + n) (if kd ≤ 2 then nI kd else -1)) D9 →
      f_X9_takePart F M9 = f_X9_takePart_b100 F (nI (10 + n)) s0 (gst C9 98 (10 + n) (if kd ≤ 2 then nI kd else -1)) → (fn0 = 0 → kd ≤ 2 ∧ kv = nI kd) →
      ∃ fn' t' x1 x2 x3 x4 x5 x6 B8 B9, f_X3_readPart_b21 F M8 = f_X3_readPart_b79 F x1 x2 x3 x4 x5 x6 B8 ∧ f_X9_takePart F M9 = some B9 ∧ zR T tl B8 B9 fn' t' ∧ fr8 M8 B8 ∧
      (∀ k j, ¬ (k = 95 ∧ 15 ≤ j ∧ j ≤ 19) → ¬ (98 ≤ k ∧ k ≤ 104 ∧ j = 10 + n) → ¬ (k = 108 ∧ j = 4) → B9 k j = M9 k j) ∧ B9 108 4 = nI (n + 1) ∧
      (fn' = 0 → t ≤ t' ∧ B9 104 (10 + n) = nI 0 ∧ ∃ kd l w p a b, kd ≤ 2 ∧ l ≤ 3 ∧ w ≤ 9 ∧ p ≤ 99 ∧ a ≤ 11 ∧ b ≤ 11 ∧ a ≤ b ∧ x1 = nI kd ∧ x2 = nI l ∧ x3 = nI w ∧ x4 = nI p ∧ x5 = nI a ∧ x6 = nI b ∧ B9 98 (10 + n) = nI kd ∧ B9 99 (10 + n) = nI l ∧ B9 100 (10 + n) = nI w ∧ B9 101 (10 + n) = nI p ∧ B9 102 (10 + n) = nI a ∧ B9 103 (10 + n) = nI b) := by
    intro kd kv D8 D9 fn0 s0 g hk hm hzd hf8 hf9 htp hkd
    have gd := fr9_s hf9
    obtain ⟨fn', t', x2, x3, x4, x5, x6, B8, B9, p1, p2, p3, p4, p5, p6, p7⟩ := z_part5 hF hb hk hm hzd hn (by rw [gd _ _ (by omega), gst_v, if_neg (by omega), e108])
    refine ⟨fn', t', kv, x2, x3, x4, x5, x6, B8, B9, p1, htp.trans p2, p3, fr8_t hf8 p4, fun k j n1 n2 n3 => ?_, p6, fun q => ?_⟩
    · rw [p5 k j n1 (by omega) n3, gd _ _ n1, gst_v, if_neg (by omega), g9 _ _ n1]
    · obtain ⟨y1, y2, y3, l, w, p, a, b, y4, y5, y6, y7, y8, y9, y10⟩ := p7 q
      obtain ⟨k1, k2⟩ := hkd y1
      refine ⟨by omega, y3, kd, l, w, p, a, b, k1, y4, y5, y6, y7, y8, y9, k2, y10.1, y10.2.1, y10.2.2.1, y10.2.2.2.1, y10.2.2.2.2.1, ?_, y10.2.2.2.2.2⟩
      rw [p5 _ _ (by omega) (by omega) (by omega), gd _ _ (by omega), gst_v, if_pos ⟨rfl, rfl⟩, if_pos k1]
  have hL3 : nI (wl 3).length = (4 : Int32) := rfl
  have hL4 : nI (wl 4).length = (4 : Int32) := rfl
  have hL5 : nI (wl 5).length = (5 : Int32) := rfl
  rw [hL3] at v3
  rw [hL4] at v4
  rw [hL5] at v5
  have hi : ∀ v : Int32, zR T tl C8 (gst C9 98 (10 + n) v) 0 e := fun v => z_gst z1 (by omega) (by omega)
  have h18 : ∀ v : Int32, gst C9 98 (10 + n) v 95 18 = nI 0 := fun v => by rw [gst_v, if_neg (by omega)]; exact z1.2.2.2.2.1
  have htk : f_X9_takePart F M9 = (f_X9_isWord F (4 : Int32) (98 : Int32) (114 : Int32) (111 : Int32) (119 : Int32) (0 : Int32) C9).bind fun r3 =>
      if r3 = 0 then
        (f_X9_isWord F (4 : Int32) (101 : Int32) (121 : Int32) (101 : Int32) (115 : Int32) (0 : Int32) C9).bind fun r4 =>
        if r4 = 0 then
          (f_X9_isWord F (5 : Int32) (109 : Int32) (111 : Int32) (117 : Int32) (116 : Int32) (104 : Int32) C9).bind fun r5 =>
          if r5 = 0 then
            f_X9_takePart_b84 F (nI (10 + n)) (-1 : Int32) (nI (10 + n)) C9
          else
            f_X9_takePart_b84 F (nI (10 + n)) (2 : Int32) (nI (10 + n)) C9
        else
          f_X9_takePart_b84 F (nI (10 + n)) (1 : Int32) (nI (10 + n)) C9
      else
        f_X9_takePart_b84 F (nI (10 + n)) (0 : Int32) (nI (10 + n)) C9 := by
    unfold f_X9_takePart
    rw [r2, pn_bs, show (4 : Int32) = nI 4 from rfl, ck_n _ (by omega) (by omega), pn_lt, nI_clamp (by omega), e108, show (10 : Int32) = nI 10 from rfl, nI_add]
  have hb84 : ∀ v : Int32, f_X9_takePart_b84 F (nI (10 + n)) v (nI (10 + n)) C9 = if v < 0 then f_X9_takePart_b100 F (nI (10 + n)) 0 (gst C9 98 (10 + n) v) else f_X9_takePart_b100 F (nI (10 + n)) 1 (gst C9 98 (10 + n) v) := fun v => by
    unfold f_X9_takePart_b84
    have ee : gst C9 98 (10 + n) v 98 (10 + n) = v := by rw [gst_v, if_pos ⟨rfl, rfl⟩]
    rw [hx, hcl, pn_ltM, hx, ee]
  have hrk : f_X3_readKind F M8 = (f_X6_stands F 3 (nI s) (nI e) C8).bind fun r2 =>
    if r2 = 0 then
      (f_X6_stands F 4 (nI s) (nI e) C8).bind fun r3 =>
      if r3 = 0 then
        (f_X6_stands F 5 (nI s) (nI e) C8).bind fun r4 =>
        if r4 = 0 then
          (f_X3_fail (1 : Int32) (nI s) C8).bind fun r5 =>
          some ((0 : Int32), r5)
        else
          some ((2 : Int32), C8)
      else
        some ((1 : Int32), C8)
    else
      some ((0 : Int32), C8) := by
    unfold f_X3_readKind
    rw [h4, if_pos (by rfl), r1, pn_bs, c3, e2]
  rw [w3, pn_bs] at hrk
  rw [show (98 : Int32) = nI 98 from rfl, show (114 : Int32) = nI 114 from rfl, show (111 : Int32) = nI 111 from rfl, show (119 : Int32) = nI 119 from rfl] at htk
  have v3' : f_X9_isWord F (4 : Int32) (nI 98) (nI 114) (nI 111) (nI 119) (0 : Int32) C9 = some (nI (if wdB T (wl 3) s e then 1 else 0)) := v3
  have v4' : f_X9_isWord F (4 : Int32) (101 : Int32) (121 : Int32) (101 : Int32) (115 : Int32) (0 : Int32) C9 = some (nI (if wdB T (wl 4) s e then 1 else 0)) := v4
  have v5' : f_X9_isWord F (5 : Int32) (109 : Int32) (nI 111) (117 : Int32) (116 : Int32) (104 : Int32) C9 = some (nI (if wdB T (wl 5) s e then 1 else 0)) := v5
  rw [v3', pn_bs] at htk
  have i10 : ¬ nI 1 = (0 : Int32) := by decide
  have i00 : nI 0 = (0 : Int32) := rfl
  cases q3 : wdB T (wl 3) s e
  · rw [q3, if_z0, w4, pn_bs] at hrk
    rw [q3, if_z0, v4', pn_bs] at htk
    cases q4 : wdB T (wl 4) s e
    · rw [q4, if_z0, w5, pn_bs] at hrk
      rw [q4, if_z0, v5', pn_bs] at htk
      cases q5 : wdB T (wl 5) s e
      · rw [q5, if_z0] at hrk
        rw [q5, if_z0, hb84, if_pos (by decide)] at htk
        obtain ⟨fn0, D8, D9, a1, a2, a3, a4, a5, a6, -⟩ := z_fail (num := 1) (hi (-1)) (by omega) (by omega) (w8 := nI s) (w9 := gst C9 98 (10 + n) (-1) 95 16) (fun _ => by rw [gst_v, if_neg (by omega), c16])
        rw [show (1 : Int32) = nI 1 from rfl, a1, pn_bs] at hrk
        exact rest 3 0 D8 D9 fn0 0 (nI 0) hrk a2 a3 (fr8_t f8 a4) a5 htk (fun q => absurd q a6)
      · rw [q5, if_z1] at hrk
        rw [q5, if_z1, hb84, if_neg (by decide)] at htk
        exact rest 2 2 C8 (gst C9 98 (10 + n) (nI 2)) 0 1 (nI 1) hrk (e9_want_1 (h18 _)) (hi _) f8 (fr9_r _) htk (fun _ => ⟨by omega, rfl⟩)
    · rw [q4, if_z1] at hrk
      rw [q4, if_z1, hb84, if_neg (by decide)] at htk
      exact rest 1 1 C8 (gst C9 98 (10 + n) (nI 1)) 0 1 (nI 1) hrk (e9_want_1 (h18 _)) (hi _) f8 (fr9_r _) htk (fun _ => ⟨by omega, rfl⟩)
  · rw [q3, if_z1] at hrk
    rw [q3, if_z1, hb84, if_neg (by decide)] at htk
    exact rest 0 0 C8 (gst C9 98 (10 + n) (nI 0)) 0 1 (nI 1) hrk (e9_want_1 (h18 _)) (hi _) f8 (fr9_r _) htk (fun _ => ⟨by omega, rfl⟩)
end EV
