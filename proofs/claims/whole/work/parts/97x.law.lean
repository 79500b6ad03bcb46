/-! the law's loop -/
set_option maxRecDepth 20000 in
theorem law_loop {F L : Nat} {sc : Nat → Int32} (hF : 4000 ≤ F) (hL : L ≤ 2048) : ∀ (d n i : Nat) (M : gM), L ≤ 4 * i + d → i ≤ 1000 → d < n → qR M → f_L_law_h18 F L sc n (nI (4 * i)) M = some 1 := by
  intro d
  induction d with
  | zero =>
    intro n i M hd hi hn h
    obtain ⟨n', rfl⟩ : ∃ n', n = n' + 1 := ⟨n - 1, by omega⟩
    show f_L_law_h18_b F L sc _ (nI (4 * i)) M = _
    unfold f_L_law_h18_b
    rw [if_pos (show Int32.ofNat L - 4 < nI (4 * i) by
      show nI L - nI 4 < nI (4 * i)
      rw [fa_lt, pk_sub_toInt (by omega) (by omega), nI_toInt (by omega)]
      omega)]
  | succ d ih =>
    intro n i M hd hi hn h
    obtain ⟨n', rfl⟩ : ∃ n', n = n' + 1 := ⟨n - 1, by omega⟩
    show f_L_law_h18_b F L sc _ (nI (4 * i)) M = _
    unfold f_L_law_h18_b
    by_cases hex : L < 4 * i + 4
    · rw [if_pos (show Int32.ofNat L - 4 < nI (4 * i) by
        show nI L - nI 4 < nI (4 * i)
        rw [fa_lt, pk_sub_toInt (by omega) (by omega), nI_toInt (by omega)]
        omega)]
    · rw [if_neg (show ¬ Int32.ofNat L - 4 < nI (4 * i) by
        show ¬ nI L - nI 4 < nI (4 * i)
        rw [fa_lt, pk_sub_toInt (by omega) (by omega), nI_toInt (by omega)]
        omega)]
      have hi2 : i < 512 := by omega
      have e1 : nI (4 * i) + (1 : Int32) = nI (4 * i + 1) := nI_add _ 1
      have e2 : nI (4 * i) + (2 : Int32) = nI (4 * i + 2) := nI_add _ 2
      have e3 : nI (4 * i) + (3 : Int32) = nI (4 * i + 3) := nI_add _ 3
      have e4 : nI (4 * i) + (4 : Int32) = nI (4 * (i + 1)) := nI_add _ 4
      have k0 : ∀ {ρ : Type} (o : Option ρ), ck (ib (nI (4 * i)) L) o = o := fun o => ck_n o (by omega) (by omega)
      have k1 : ∀ {ρ : Type} (o : Option ρ), ck (ib (nI (4 * i + 1)) L) o = o := fun o => ck_n o (by omega) (by omega)
      have k2 : ∀ {ρ : Type} (o : Option ρ), ck (ib (nI (4 * i + 2)) L) o = o := fun o => ck_n o (by omega) (by omega)
      have k3 : ∀ {ρ : Type} (o : Option ρ), ck (ib (nI (4 * i + 3)) L) o = o := fun o => ck_n o (by omega) (by omega)
      have IH : ∀ M, qR M → f_L_law_h18 F L sc n' (nI (4 * (i + 1))) M = some 1 := fun M hM => ih n' (i + 1) M (by omega) (by omega) (by omega) hM
      rw [k0, e1, e2, e3, e4]
      generalize sc (nI (4 * i + 1)).toNatClampNeg = a1
      generalize sc (nI (4 * i + 2)).toNatClampNeg = a2
      generalize sc (nI (4 * i + 3)).toNatClampNeg = a3
      generalize sc (nI (4 * i)).toNatClampNeg &&& (31 : Int32) = w
      generalize f_L_law_h18 F L sc n' (nI (4 * (i + 1))) = K at *
      by_cases hc : w = (0 : Int32)
      · obtain ⟨r, M1, M2, g8, g9, hR⟩ := q_feed hF a1 (((a2.toInt64) <<< ((32 : Int32).toInt64 &&& 63)) ||| ((a3.toInt64) &&& (4294967295 : Int64))) M h
        rw [if_pos hc, k1, k2, k3, g8, pn_bs, k1, k2, k3, g9, pn_bs, if_pos rfl]
        exact IH M2 hR
      rw [if_neg hc]
      clear hc
      by_cases hc : w = (1 : Int32)
      · obtain ⟨r, M1, M2, g8, g9, hR⟩ := q_town hF  M h
        rw [if_pos hc, g8, pn_bs, g9, pn_bs, if_pos rfl]
        exact IH M2 hR
      rw [if_neg hc]
      clear hc
      by_cases hc : w = (2 : Int32)
      · obtain ⟨r, g8, g9⟩ := q_fault  M h
        rw [if_pos hc, g8, pn_bs, g9, pn_bs, if_pos rfl]
        exact IH M h
      rw [if_neg hc]
      clear hc
      by_cases hc : w = (3 : Int32)
      · obtain ⟨r, g8, g9⟩ := q_told hF a1 h
        rw [if_pos hc, k1, g8, pn_bs, k1, g9, pn_bs, if_pos rfl]
        exact IH M h
      rw [if_neg hc]
      clear hc
      by_cases hc : w = (4 : Int32)
      · obtain ⟨r, g8, g9⟩ := q_part a1 a2 M h
        rw [if_pos hc, k1, k2, g8, pn_bs, k1, k2, g9, pn_bs, if_pos rfl]
        exact IH M h
      rw [if_neg hc]
      clear hc
      by_cases hc : w = (5 : Int32)
      · obtain ⟨r, g8, g9⟩ := q_scene a1 a2 M h
        rw [if_pos hc, k1, k2, g8, pn_bs, k1, k2, g9, pn_bs, if_pos rfl]
        exact IH M h
      rw [if_neg hc]
      clear hc
      by_cases hc : w = (6 : Int32)
      · obtain ⟨r, g8, g9⟩ := q_look hF a1 a2 h
        rw [if_pos hc, k1, k2, g8, pn_bs, k1, k2, g9, pn_bs, if_pos rfl]
        exact IH M h
      rw [if_neg hc]
      clear hc
      by_cases hc : w = (7 : Int32)
      · obtain ⟨r, M1, M2, g8, g9, hR⟩ := q_law a1 M h
        rw [if_pos hc, k1, g8, pn_bs, k1, g9, pn_bs, if_pos rfl]
        exact IH M2 hR
      rw [if_neg hc]
      clear hc
      by_cases hc : w = (8 : Int32)
      · obtain ⟨r, M1, M2, g8, g9, hR⟩ := q_price a1 a2 M h
        rw [if_pos hc, k1, k2, g8, pn_bs, k1, k2, g9, pn_bs, if_pos rfl]
        exact IH M2 hR
      rw [if_neg hc]
      clear hc
      by_cases hc : w = (9 : Int32)
      · obtain ⟨r, M1, M2, g8, g9, hR⟩ := q_width a1 a2 M h
        rw [if_pos hc, k1, k2, g8, pn_bs, k1, k2, g9, pn_bs, if_pos rfl]
        exact IH M2 hR
      rw [if_neg hc]
      clear hc
      by_cases hc : w = (10 : Int32)
      · obtain ⟨r, g8, g9⟩ := q_cheapest hF a1 a2 h
        rw [if_pos hc, k1, k2, g8, pn_bs, k1, k2, g9, pn_bs, if_pos rfl]
        exact IH M h
      rw [if_neg hc]
      clear hc
      by_cases hc : w = (11 : Int32)
      · obtain ⟨r, M1, M2, g8, g9, hR⟩ := q_dressing hF a1 h
        rw [if_pos hc, k1, g8, pn_bs, k1, g9, pn_bs, if_pos rfl]
        exact IH M2 hR
      rw [if_neg hc]
      clear hc
      by_cases hc : w = (12 : Int32)
      · obtain ⟨r, M1, M2, g8, g9, hR⟩ := q_rent hF a1 h
        rw [if_pos hc, k1, g8, pn_bs, k1, g9, pn_bs, if_pos rfl]
        exact IH M2 hR
      rw [if_neg hc]
      clear hc
      by_cases hc : w = (13 : Int32)
      · obtain ⟨r, M1, M2, g8, g9, hR⟩ := q_without hF a1 h
        rw [if_pos hc, k1, g8, pn_bs, k1, g9, pn_bs, if_pos rfl]
        exact IH M2 hR
      rw [if_neg hc]
      clear hc
      by_cases hc : w = (14 : Int32)
      · obtain ⟨r, M1, M2, g8, g9, hR⟩ := q_raise hF a1 a2 h
        rw [if_pos hc, k1, k2, g8, pn_bs, k1, k2, g9, pn_bs, if_pos rfl]
        exact IH M2 hR
      rw [if_neg hc]
      clear hc
      by_cases hc : w = (15 : Int32)
      · obtain ⟨r, M2, g8, g9, hR⟩ := q_grow hF a1 h
        rw [if_pos hc, k1, g8, pn_bs, k1, g9, pn_bs, if_pos rfl]
        exact IH M2 hR
      rw [if_neg hc]
      clear hc
      by_cases hc : w = (16 : Int32)
      · obtain ⟨r, g8, g9⟩ := q_wedding hF a1 a2 h
        rw [if_pos hc, k1, k2, g8, pn_bs, k1, k2, g9, pn_bs, if_pos rfl]
        exact IH M h
      rw [if_neg hc]
      clear hc
      by_cases hc : w = (17 : Int32)
      · obtain ⟨r, M1, M2, g8, g9, hR⟩ := q_see a1 a2 M h
        rw [if_pos hc, k1, k2, g8, pn_bs, k1, k2, g9, pn_bs, if_pos rfl]
        exact IH M2 hR
      rw [if_neg hc]
      clear hc
      by_cases hc : w = (18 : Int32)
      · obtain ⟨r, g8, g9⟩ := q_seen hF a1 a2 h
        rw [if_pos hc, k1, k2, g8, pn_bs, k1, k2, g9, pn_bs, if_pos rfl]
        exact IH M h
      rw [if_neg hc]
      clear hc
      by_cases hc : w = (19 : Int32)
      · obtain ⟨r, g8, g9⟩ := q_strange hF  h
        rw [if_pos hc, g8, pn_bs, g9, pn_bs, if_pos rfl]
        exact IH M h
      rw [if_neg hc]
      clear hc
      by_cases hc : w = (20 : Int32)
      · obtain ⟨r, M1, M2, g8, g9, hR⟩ := q_day hF a1 h
        rw [if_pos hc, k1, g8, pn_bs, k1, g9, pn_bs, if_pos rfl]
        exact IH M2 hR
      rw [if_neg hc]
      clear hc
      by_cases hc : w = (21 : Int32)
      · obtain ⟨r, M1, M2, g8, g9, hR⟩ := q_drift hF a1 h
        rw [if_pos hc, k1, g8, pn_bs, k1, g9, pn_bs, if_pos rfl]
        exact IH M2 hR
      rw [if_neg hc]
      clear hc
      by_cases hc : w = (22 : Int32)
      · obtain ⟨r, M1, M2, g8, g9, hR⟩ := q_write a1 a2 M h
        rw [if_pos hc, k1, k2, g8, pn_bs, k1, k2, g9, pn_bs, if_pos rfl]
        exact IH M2 hR
      rw [if_neg hc]
      clear hc
      by_cases hc : w = (23 : Int32)
      · obtain ⟨r, M1, M2, g8, g9, hR⟩ := q_tear  M h
        rw [if_pos hc, g8, pn_bs, g9, pn_bs, if_pos rfl]
        exact IH M2 hR
      rw [if_neg hc]
      clear hc
      by_cases hc : w = (24 : Int32)
      · obtain ⟨r, g8, g9⟩ := q_judge hF  h
        rw [if_pos hc, g8, pn_bs, g9, pn_bs, if_pos rfl]
        exact IH M h
      rw [if_neg hc]
      clear hc
      by_cases hc : w = (25 : Int32)
      · obtain ⟨r, M1, M2, g8, g9, hR⟩ := q_seed a1 M h
        rw [if_pos hc, k1, g8, pn_bs, k1, g9, pn_bs, if_pos rfl]
        exact IH M2 hR
      rw [if_neg hc]
      clear hc
      by_cases hc : w = (26 : Int32)
      · obtain ⟨r, M1, M2, g8, g9, hR⟩ := q_keep hF a1 M h
        rw [if_pos hc, k1, g8, pn_bs, k1, g9, pn_bs, if_pos rfl]
        exact IH M2 hR
      rw [if_neg hc]
      clear hc
      by_cases hc : w = (27 : Int32)
      · obtain ⟨r, M1, M2, g8, g9, hR⟩ := q_goBack hF a1 M h
        rw [if_pos hc, k1, g8, pn_bs, k1, g9, pn_bs, if_pos rfl]
        exact IH M2 hR
      rw [if_neg hc]
      clear hc
      exact IH M h
/-- THE PURE STATEMENT: on every script the two sides answer alike -/
theorem law_pure : ∀ (L : Nat) (sc : Nat → Int32), L ≤ 2048 → ∃ F, f_L_law_h18 F L sc F 0 gM0 = some 1 := fun L sc hL =>
  ⟨4000, law_loop (Nat.le_refl _) hL L 4000 0 gM0 (by omega) (by omega) (by omega) qR_0⟩
