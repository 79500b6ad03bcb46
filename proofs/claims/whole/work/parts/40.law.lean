/-- the script, that no object of the world is -/
def gSc (X : gX) (b L : Nat) (sc : Nat → Int32) : Prop := va_X b L sc (xs X) (xs X).heap ∧ b < (xs X).heap.size ∧ ¬ xA X b
section GSC
variable {ρ : Type} {X : gX} {Q : ρ → State → Prop} {nL : Nat} {M : gM} {lv : List (Nat × Value)} {stk : List Value} {pc : Nat} {o : Option ρ} {cc : ByteArray} {own : String} {ret : Option FieldType} {fr lo b L : Nat} {sc : Nat → Int32}
theorem g_sclen (C : gC X cc own nL ret fr lo) (HX : gSc X b L sc) (hd : decode cc pc = .ok (.arraylength, 1)) (k : G X Q nL M lv (.int (Int32.ofNat L) :: stk) (pc + 1) o) : G X Q nL M lv (.ref b :: stk) pc o :=
  fun r hr H locs ls hP hS hl => va_slen C.x C.b HX.1 HX.2.1 HX.2.2 hS hd (k r hr H locs ls hP hS hl)
theorem g_scld (C : gC X cc own nL ret fr lo) (HX : gSc X b L sc) {j : Int32} (hd : decode cc pc = .ok (.iaload, 1)) (k : G X Q nL M lv (.int (sc j.toNatClampNeg) :: stk) (pc + 1) o) : G X Q nL M lv (.int j :: .ref b :: stk) pc (ck (ib j L) o) := by
  intro r hr H locs ls hP hS hl
  obtain ⟨h1, h2⟩ := ck_some hr
  exact va_sld C.x C.b HX.1 HX.2.1 HX.2.2 hS (ib_in h1) hd (k r h2 H locs ls hP hS hl)
end GSC
theorem ii_4 (x : Int32) : x + Int32.ofInt (4) = x + (4 : Int32) := rfl
def f_L_law_h18_b (F : Nat) (L : Nat) (sc : Nat → Int32) (k18 : Int32 → gM → Option Int32) (x3 : Int32) (M : gM) : Option Int32 :=
  if ((Int32.ofNat L) - (4 : Int32)) < x3 then
    some (1 : Int32)
  else
    ck (ib x3 L) <|
    if ((sc x3.toNatClampNeg) &&& (31 : Int32)) = (0 : Int32) then
      ck (ib (x3 + (1 : Int32)) L) <|
      ck (ib (x3 + (2 : Int32)) L) <|
      ck (ib (x3 + (3 : Int32)) L) <|
      (f_X8_feed F (sc (x3 + (1 : Int32)).toNatClampNeg) ((((sc (x3 + (2 : Int32)).toNatClampNeg).toInt64) <<< ((32 : Int32).toInt64 &&& 63)) ||| (((sc (x3 + (3 : Int32)).toNatClampNeg).toInt64) &&& (4294967295 : Int64))) M).bind fun r2 =>
      ck (ib (x3 + (1 : Int32)) L) <|
      ck (ib (x3 + (2 : Int32)) L) <|
      ck (ib (x3 + (3 : Int32)) L) <|
      (f_X9_feed F (sc (x3 + (1 : Int32)).toNatClampNeg) ((((sc (x3 + (2 : Int32)).toNatClampNeg).toInt64) <<< ((32 : Int32).toInt64 &&& 63)) ||| (((sc (x3 + (3 : Int32)).toNatClampNeg).toInt64) &&& (4294967295 : Int64))) r2.2).bind fun r3 =>
      if r2.1 = r3.1 then
        k18 (x3 + (4 : Int32)) r3.2
      else
        none
    else
    if ((sc x3.toNatClampNeg) &&& (31 : Int32)) = (1 : Int32) then
      (f_X8_town F M).bind fun r5 =>
      (f_X9_town F r5.2).bind fun r6 =>
      if r5.1 = r6.1 then
        k18 (x3 + (4 : Int32)) r6.2
      else
        none
    else
    if ((sc x3.toNatClampNeg) &&& (31 : Int32)) = (2 : Int32) then
      (f_X8_fault M).bind fun r8 =>
      (f_X9_fault M).bind fun r9 =>
      if r8 = r9 then
        k18 (x3 + (4 : Int32)) M
      else
        none
    else
    if ((sc x3.toNatClampNeg) &&& (31 : Int32)) = (3 : Int32) then
      ck (ib (x3 + (1 : Int32)) L) <|
      (f_X8_told F (sc (x3 + (1 : Int32)).toNatClampNeg) M).bind fun r11 =>
      ck (ib (x3 + (1 : Int32)) L) <|
      (f_X9_told F (sc (x3 + (1 : Int32)).toNatClampNeg) M).bind fun r12 =>
      if r11 = r12 then
        k18 (x3 + (4 : Int32)) M
      else
        none
    else
    if ((sc x3.toNatClampNeg) &&& (31 : Int32)) = (4 : Int32) then
      ck (ib (x3 + (1 : Int32)) L) <|
      ck (ib (x3 + (2 : Int32)) L) <|
      (f_X8_part (sc (x3 + (1 : Int32)).toNatClampNeg) (sc (x3 + (2 : Int32)).toNatClampNeg) M).bind fun r14 =>
      ck (ib (x3 + (1 : Int32)) L) <|
      ck (ib (x3 + (2 : Int32)) L) <|
      (f_X9_part (sc (x3 + (1 : Int32)).toNatClampNeg) (sc (x3 + (2 : Int32)).toNatClampNeg) M).bind fun r15 =>
      if r14 = r15 then
        k18 (x3 + (4 : Int32)) M
      else
        none
    else
    if ((sc x3.toNatClampNeg) &&& (31 : Int32)) = (5 : Int32) then
      ck (ib (x3 + (1 : Int32)) L) <|
      ck (ib (x3 + (2 : Int32)) L) <|
      (f_X8_scene (sc (x3 + (1 : Int32)).toNatClampNeg) (sc (x3 + (2 : Int32)).toNatClampNeg) M).bind fun r17 =>
      ck (ib (x3 + (1 : Int32)) L) <|
      ck (ib (x3 + (2 : Int32)) L) <|
      (f_X9_scene (sc (x3 + (1 : Int32)).toNatClampNeg) (sc (x3 + (2 : Int32)).toNatClampNeg) M).bind fun r18 =>
      if r17 = r18 then
        k18 (x3 + (4 : Int32)) M
      else
        none
    else
    if ((sc x3.toNatClampNeg) &&& (31 : Int32)) = (6 : Int32) then
      ck (ib (x3 + (1 : Int32)) L) <|
      ck (ib (x3 + (2 : Int32)) L) <|
      (f_X8_look (sc (x3 + (1 : Int32)).toNatClampNeg) (sc (x3 + (2 : Int32)).toNatClampNeg) M).bind fun r20 =>
      ck (ib (x3 + (1 : Int32)) L) <|
      ck (ib (x3 + (2 : Int32)) L) <|
      (f_X9_look F (sc (x3 + (1 : Int32)).toNatClampNeg) (sc (x3 + (2 : Int32)).toNatClampNeg) M).bind fun r21 =>
      if r20 = r21 then
        k18 (x3 + (4 : Int32)) M
      else
        none
    else
    if ((sc x3.toNatClampNeg) &&& (31 : Int32)) = (7 : Int32) then
      ck (ib (x3 + (1 : Int32)) L) <|
      (f_X8_law (sc (x3 + (1 : Int32)).toNatClampNeg) M).bind fun r23 =>
      ck (ib (x3 + (1 : Int32)) L) <|
      (f_X9_law (sc (x3 + (1 : Int32)).toNatClampNeg) r23.2).bind fun r24 =>
      if r23.1 = r24.1 then
        k18 (x3 + (4 : Int32)) r24.2
      else
        none
    else
    if ((sc x3.toNatClampNeg) &&& (31 : Int32)) = (8 : Int32) then
      ck (ib (x3 + (1 : Int32)) L) <|
      ck (ib (x3 + (2 : Int32)) L) <|
      (f_X8_price (sc (x3 + (1 : Int32)).toNatClampNeg) (sc (x3 + (2 : Int32)).toNatClampNeg) M).bind fun r26 =>
      ck (ib (x3 + (1 : Int32)) L) <|
      ck (ib (x3 + (2 : Int32)) L) <|
      (f_X9_price (sc (x3 + (1 : Int32)).toNatClampNeg) (sc (x3 + (2 : Int32)).toNatClampNeg) r26.2).bind fun r27 =>
      if r26.1 = r27.1 then
        k18 (x3 + (4 : Int32)) r27.2
      else
        none
    else
    if ((sc x3.toNatClampNeg) &&& (31 : Int32)) = (9 : Int32) then
      ck (ib (x3 + (1 : Int32)) L) <|
      ck (ib (x3 + (2 : Int32)) L) <|
      (f_X8_width (sc (x3 + (1 : Int32)).toNatClampNeg) (sc (x3 + (2 : Int32)).toNatClampNeg) M).bind fun r29 =>
      ck (ib (x3 + (1 : Int32)) L) <|
      ck (ib (x3 + (2 : Int32)) L) <|
      (f_X9_width (sc (x3 + (1 : Int32)).toNatClampNeg) (sc (x3 + (2 : Int32)).toNatClampNeg) r29.2).bind fun r30 =>
      if r29.1 = r30.1 then
        k18 (x3 + (4 : Int32)) r30.2
      else
        none
    else
    if ((sc x3.toNatClampNeg) &&& (31 : Int32)) = (10 : Int32) then
      ck (ib (x3 + (1 : Int32)) L) <|
      ck (ib (x3 + (2 : Int32)) L) <|
      (f_X8_cheapest F (sc (x3 + (1 : Int32)).toNatClampNeg) (sc (x3 + (2 : Int32)).toNatClampNeg) M).bind fun r32 =>
      ck (ib (x3 + (1 : Int32)) L) <|
      ck (ib (x3 + (2 : Int32)) L) <|
      (f_X9_cheapest F (sc (x3 + (1 : Int32)).toNatClampNeg) (sc (x3 + (2 : Int32)).toNatClampNeg) M).bind fun r33 =>
      if r32 = r33 then
        k18 (x3 + (4 : Int32)) M
      else
        none
    else
    if ((sc x3.toNatClampNeg) &&& (31 : Int32)) = (11 : Int32) then
      ck (ib (x3 + (1 : Int32)) L) <|
      (f_X8_dressing F (sc (x3 + (1 : Int32)).toNatClampNeg) M).bind fun r35 =>
      ck (ib (x3 + (1 : Int32)) L) <|
      (f_X9_dressing F (sc (x3 + (1 : Int32)).toNatClampNeg) r35.2).bind fun r36 =>
      if r35.1 = r36.1 then
        k18 (x3 + (4 : Int32)) r36.2
      else
        none
    else
    if ((sc x3.toNatClampNeg) &&& (31 : Int32)) = (12 : Int32) then
      ck (ib (x3 + (1 : Int32)) L) <|
      (f_X8_rent F (sc (x3 + (1 : Int32)).toNatClampNeg) M).bind fun r38 =>
      ck (ib (x3 + (1 : Int32)) L) <|
      (f_X9_rent F (sc (x3 + (1 : Int32)).toNatClampNeg) r38.2).bind fun r39 =>
      if r38.1 = r39.1 then
        k18 (x3 + (4 : Int32)) r39.2
      else
        none
    else
    if ((sc x3.toNatClampNeg) &&& (31 : Int32)) = (13 : Int32) then
      ck (ib (x3 + (1 : Int32)) L) <|
      (f_X8_without F (sc (x3 + (1 : Int32)).toNatClampNeg) M).bind fun r41 =>
      ck (ib (x3 + (1 : Int32)) L) <|
      (f_X9_without F (sc (x3 + (1 : Int32)).toNatClampNeg) r41.2).bind fun r42 =>
      if r41.1 = r42.1 then
        k18 (x3 + (4 : Int32)) r42.2
      else
        none
    else
    if ((sc x3.toNatClampNeg) &&& (31 : Int32)) = (14 : Int32) then
      ck (ib (x3 + (1 : Int32)) L) <|
      ck (ib (x3 + (2 : Int32)) L) <|
      (f_X8_raise F (sc (x3 + (1 : Int32)).toNatClampNeg) (sc (x3 + (2 : Int32)).toNatClampNeg) M).bind fun r44 =>
      ck (ib (x3 + (1 : Int32)) L) <|
      ck (ib (x3 + (2 : Int32)) L) <|
      (f_X9_raise F (sc (x3 + (1 : Int32)).toNatClampNeg) (sc (x3 + (2 : Int32)).toNatClampNeg) r44.2).bind fun r45 =>
      if r44.1 = r45.1 then
        k18 (x3 + (4 : Int32)) r45.2
      else
        none
    else
    if ((sc x3.toNatClampNeg) &&& (31 : Int32)) = (15 : Int32) then
      ck (ib (x3 + (1 : Int32)) L) <|
      (f_X8_grow F (sc (x3 + (1 : Int32)).toNatClampNeg) M).bind fun r47 =>
      ck (ib (x3 + (1 : Int32)) L) <|
      (f_X9_grow F (sc (x3 + (1 : Int32)).toNatClampNeg) M).bind fun r48 =>
      if r47 = r48.1 then
        k18 (x3 + (4 : Int32)) r48.2
      else
        none
    else
    if ((sc x3.toNatClampNeg) &&& (31 : Int32)) = (16 : Int32) then
      ck (ib (x3 + (1 : Int32)) L) <|
      ck (ib (x3 + (2 : Int32)) L) <|
      (f_X8_wedding F (sc (x3 + (1 : Int32)).toNatClampNeg) (sc (x3 + (2 : Int32)).toNatClampNeg) M).bind fun r50 =>
      ck (ib (x3 + (1 : Int32)) L) <|
      ck (ib (x3 + (2 : Int32)) L) <|
      (f_X9_wedding F (sc (x3 + (1 : Int32)).toNatClampNeg) (sc (x3 + (2 : Int32)).toNatClampNeg) M).bind fun r51 =>
      if r50 = r51 then
        k18 (x3 + (4 : Int32)) M
      else
        none
    else
    if ((sc x3.toNatClampNeg) &&& (31 : Int32)) = (17 : Int32) then
      ck (ib (x3 + (1 : Int32)) L) <|
      ck (ib (x3 + (2 : Int32)) L) <|
      (f_X8_see (sc (x3 + (1 : Int32)).toNatClampNeg) (sc (x3 + (2 : Int32)).toNatClampNeg) M).bind fun r53 =>
      ck (ib (x3 + (1 : Int32)) L) <|
      ck (ib (x3 + (2 : Int32)) L) <|
      (f_X9_see (sc (x3 + (1 : Int32)).toNatClampNeg) (sc (x3 + (2 : Int32)).toNatClampNeg) r53.2).bind fun r54 =>
      if r53.1 = r54.1 then
        k18 (x3 + (4 : Int32)) r54.2
      else
        none
    else
    if ((sc x3.toNatClampNeg) &&& (31 : Int32)) = (18 : Int32) then
      ck (ib (x3 + (1 : Int32)) L) <|
      ck (ib (x3 + (2 : Int32)) L) <|
      (f_X8_seen F (sc (x3 + (1 : Int32)).toNatClampNeg) (sc (x3 + (2 : Int32)).toNatClampNeg) M).bind fun r56 =>
      ck (ib (x3 + (1 : Int32)) L) <|
      ck (ib (x3 + (2 : Int32)) L) <|
      (f_X9_seen F (sc (x3 + (1 : Int32)).toNatClampNeg) (sc (x3 + (2 : Int32)).toNatClampNeg) M).bind fun r57 =>
      if r56 = r57 then
        k18 (x3 + (4 : Int32)) M
      else
        none
    else
    if ((sc x3.toNatClampNeg) &&& (31 : Int32)) = (19 : Int32) then
      (f_X8_strange F M).bind fun r59 =>
      (f_X9_strange F M).bind fun r60 =>
      if r59 = r60 then
        k18 (x3 + (4 : Int32)) M
      else
        none
    else
    if ((sc x3.toNatClampNeg) &&& (31 : Int32)) = (20 : Int32) then
      ck (ib (x3 + (1 : Int32)) L) <|
      (f_X8_day F (sc (x3 + (1 : Int32)).toNatClampNeg) M).bind fun r62 =>
      ck (ib (x3 + (1 : Int32)) L) <|
      (f_X9_day F (sc (x3 + (1 : Int32)).toNatClampNeg) r62.2).bind fun r63 =>
      if r62.1 = r63.1 then
        k18 (x3 + (4 : Int32)) r63.2
      else
        none
    else
    if ((sc x3.toNatClampNeg) &&& (31 : Int32)) = (21 : Int32) then
      ck (ib (x3 + (1 : Int32)) L) <|
      (f_X8_drift F (sc (x3 + (1 : Int32)).toNatClampNeg) M).bind fun r65 =>
      ck (ib (x3 + (1 : Int32)) L) <|
      (f_X9_drift F (sc (x3 + (1 : Int32)).toNatClampNeg) r65.2).bind fun r66 =>
      if r65.1 = r66.1 then
        k18 (x3 + (4 : Int32)) r66.2
      else
        none
    else
    if ((sc x3.toNatClampNeg) &&& (31 : Int32)) = (22 : Int32) then
      ck (ib (x3 + (1 : Int32)) L) <|
      ck (ib (x3 + (2 : Int32)) L) <|
      (f_X8_write (sc (x3 + (1 : Int32)).toNatClampNeg) (sc (x3 + (2 : Int32)).toNatClampNeg) M).bind fun r68 =>
      ck (ib (x3 + (1 : Int32)) L) <|
      ck (ib (x3 + (2 : Int32)) L) <|
      (f_X9_write (sc (x3 + (1 : Int32)).toNatClampNeg) (sc (x3 + (2 : Int32)).toNatClampNeg) r68.2).bind fun r69 =>
      if r68.1 = r69.1 then
        k18 (x3 + (4 : Int32)) r69.2
      else
        none
    else
    if ((sc x3.toNatClampNeg) &&& (31 : Int32)) = (23 : Int32) then
      (f_X8_tear M).bind fun r71 =>
      (f_X9_tear r71.2).bind fun r72 =>
      if r71.1 = r72.1 then
        k18 (x3 + (4 : Int32)) r72.2
      else
        none
    else
    if ((sc x3.toNatClampNeg) &&& (31 : Int32)) = (24 : Int32) then
      (f_X8_judge F M).bind fun r74 =>
      (f_X9_judge F M).bind fun r75 =>
      if r74 = r75 then
        k18 (x3 + (4 : Int32)) M
      else
        none
    else
    if ((sc x3.toNatClampNeg) &&& (31 : Int32)) = (25 : Int32) then
      ck (ib (x3 + (1 : Int32)) L) <|
      (f_X8_seed (sc (x3 + (1 : Int32)).toNatClampNeg) M).bind fun r77 =>
      ck (ib (x3 + (1 : Int32)) L) <|
      (f_X9_seed (sc (x3 + (1 : Int32)).toNatClampNeg) r77.2).bind fun r78 =>
      if r77.1 = r78.1 then
        k18 (x3 + (4 : Int32)) r78.2
      else
        none
    else
    if ((sc x3.toNatClampNeg) &&& (31 : Int32)) = (26 : Int32) then
      ck (ib (x3 + (1 : Int32)) L) <|
      (f_X8_keep F (sc (x3 + (1 : Int32)).toNatClampNeg) M).bind fun r80 =>
      ck (ib (x3 + (1 : Int32)) L) <|
      (f_X9_keep F (sc (x3 + (1 : Int32)).toNatClampNeg) r80.2).bind fun r81 =>
      if r80.1 = r81.1 then
        k18 (x3 + (4 : Int32)) r81.2
      else
        none
    else
    if ((sc x3.toNatClampNeg) &&& (31 : Int32)) = (27 : Int32) then
      ck (ib (x3 + (1 : Int32)) L) <|
      (f_X8_goBack F (sc (x3 + (1 : Int32)).toNatClampNeg) M).bind fun r83 =>
      ck (ib (x3 + (1 : Int32)) L) <|
      (f_X9_goBack F (sc (x3 + (1 : Int32)).toNatClampNeg) r83.2).bind fun r84 =>
      if r83.1 = r84.1 then
        k18 (x3 + (4 : Int32)) r84.2
      else
        none
    else
    k18 (x3 + (4 : Int32)) M
def f_L_law_h18 (F : Nat) (L : Nat) (sc : Nat → Int32) : Nat → Int32 → gM → Option Int32
  | 0, _, _ => none
  | n + 1, x3, M => f_L_law_h18_b F L sc (f_L_law_h18 F L sc n) x3 M
theorem f_L_law_h18_spec (F : Nat) (L : Nat) (sc : Nat → Int32)  (I : Int32 → gM → Prop) (μ : Int32 → gM → Nat) (φ : Int32 → gM → Option Int32)
    (h : ∀ (self : Int32 → gM → Option Int32) (x3 : Int32) (M : gM), I x3 M → (∀ (x3' : Int32) (M' : gM), I x3' M' → μ x3' M' < μ x3 M → self x3' M' = φ x3' M') → f_L_law_h18_b F L sc self x3 M = φ x3 M) :
    ∀ (n : Nat) (x3 : Int32) (M : gM), I x3 M → μ x3 M < n → f_L_law_h18 F L sc n x3 M = φ x3 M := by
  intro n
  induction n with
  | zero => intro x3 M _ hm; exact absurd hm (Nat.not_lt_zero _)
  | succ n ih => intro x3 M hI hm; exact h _ x3 M hI (fun x3' M' hI2 hlt => ih x3' M' hI2 (by omega))
set_option maxRecDepth 100000 in
set_option maxHeartbeats 4000000 in
theorem g_L_law_h18_b {X : gX} (C : gC X cL_law RL 4 ret 9 211) (F : Nat) (L : Nat) (sc : Nat → Int32) {Q : Int32 → State → Prop} {b : Nat} (HX : gSc X b L sc) (hret : ∀ (M : gM) (lv : List (Nat × Value)), G X Q 4 M lv [.int 1] 911 (some 1)) (k18 : Int32 → gM → Option Int32) (hk18 : ∀ (x3 : Int32) (M : gM), G X Q 4 M [(0, .ref b), (1, .ref (xad X 0)), (2, .ref (xad X 95)), (3, .int x3)] [] 18 (k18 x3 M)) (x3 : Int32) (M : gM) : G X Q 4 M [(0, .ref b), (1, .ref (xad X 0)), (2, .ref (xad X 95)), (3, .int x3)] [] 18 (f_L_law_h18_b F L sc k18 x3 M) := by
  unfold f_L_law_h18_b
  refine g_iload_n (pc := 18) C dL_law_18 rfl 3 rfl ?_
  refine g_aload_n (pc := 19) C dL_law_19 rfl 0 rfl ?_
  refine g_sclen (pc := 20) C HX dL_law_20 ?_
  refine g_iconst (pc := 21) C dL_law_21 ic_iconst_4 ?_
  refine g_isub (pc := 22) C dL_law_22 ?_
  refine g_icmp_gt (pc := 23) (tgt := 910) C dL_law_23 (by decide) ?_ ?_
  · refine g_iconst (pc := 910) C dL_law_910 ic_iconst_1 ?_
    exact hret _ _
  · refine g_aload_n (pc := 26) C dL_law_26 rfl 0 rfl ?_
    refine g_iload_n (pc := 27) C dL_law_27 rfl 3 rfl ?_
    refine g_scld (pc := 28) C HX dL_law_28 ?_
    refine g_bipush (pc := 29) C dL_law_29 ic_bipush_31 ?_
    refine g_iand (pc := 31) C dL_law_31 ?_
    refine g_case (pc := 32) (tgt := 160) (ai := 0) C dL_law_32 (by decide) (by decide) (by decide) rfl (by decide) ?_ (fun hc1 => ?_)
    · refine g_aload_n (pc := 160) C dL_law_160 rfl 1 rfl ?_
      refine g_aload_n (pc := 161) C dL_law_161 rfl 0 rfl ?_
      refine g_iload_n (pc := 162) C dL_law_162 rfl 3 rfl ?_
      refine g_iconst (pc := 163) C dL_law_163 ic_iconst_1 ?_
      refine g_iadd (pc := 164) C dL_law_164 ?_
      refine g_scld (pc := 165) C HX dL_law_165 ?_
      refine g_aload_n (pc := 166) C dL_law_166 rfl 0 rfl ?_
      refine g_iload_n (pc := 167) C dL_law_167 rfl 3 rfl ?_
      refine g_iconst (pc := 168) C dL_law_168 ic_iconst_2 ?_
      refine g_iadd (pc := 169) C dL_law_169 ?_
      refine g_scld (pc := 170) C HX dL_law_170 ?_
      refine g_i2l (pc := 171) C dL_law_171 ?_
      refine g_bipush (pc := 172) C dL_law_172 ic_bipush_32 ?_
      refine g_lshl (pc := 174) C dL_law_174 ?_
      refine g_aload_n (pc := 175) C dL_law_175 rfl 0 rfl ?_
      refine g_iload_n (pc := 176) C dL_law_176 rfl 3 rfl ?_
      refine g_iconst (pc := 177) C dL_law_177 ic_iconst_3 ?_
      refine g_iadd (pc := 178) C dL_law_178 ?_
      refine g_scld (pc := 179) C HX dL_law_179 ?_
      refine g_i2l (pc := 180) C dL_law_180 ?_
      refine g_ldc2 (pc := 181) C wl_L_13 dL_law_181 ?_
      refine g_land (pc := 184) C dL_law_184 ?_
      refine g_lor (pc := 185) C dL_law_185 ?_
      refine g_callW (pc := 186) C (g_runV (stk := []) C (c_X8_feed F (sc (x3 + (1 : Int32)).toNatClampNeg) ((((sc (x3 + (2 : Int32)).toNatClampNeg).toInt64) <<< ((32 : Int32).toInt64 &&& 63)) ||| (((sc (x3 + (3 : Int32)).toNatClampNeg).toInt64) &&& (4294967295 : Int64))) M) rfl rfl rfl kd_0 rfl wC_X8_feed wI_X8_feed wV_X8_feed wi_X8 wm_L_15 hy_X8_feed (by decide) (Nat.le_of_ble_eq_true rfl) dL_law_186) (fun r2 => ?_)
      refine g_aload_n (pc := 189) C dL_law_189 rfl 2 rfl ?_
      refine g_aload_n (pc := 190) C dL_law_190 rfl 0 rfl ?_
      refine g_iload_n (pc := 191) C dL_law_191 rfl 3 rfl ?_
      refine g_iconst (pc := 192) C dL_law_192 ic_iconst_1 ?_
      refine g_iadd (pc := 193) C dL_law_193 ?_
      refine g_scld (pc := 194) C HX dL_law_194 ?_
      refine g_aload_n (pc := 195) C dL_law_195 rfl 0 rfl ?_
      refine g_iload_n (pc := 196) C dL_law_196 rfl 3 rfl ?_
      refine g_iconst (pc := 197) C dL_law_197 ic_iconst_2 ?_
      refine g_iadd (pc := 198) C dL_law_198 ?_
      refine g_scld (pc := 199) C HX dL_law_199 ?_
      refine g_i2l (pc := 200) C dL_law_200 ?_
      refine g_bipush (pc := 201) C dL_law_201 ic_bipush_32 ?_
      refine g_lshl (pc := 203) C dL_law_203 ?_
      refine g_aload_n (pc := 204) C dL_law_204 rfl 0 rfl ?_
      refine g_iload_n (pc := 205) C dL_law_205 rfl 3 rfl ?_
      refine g_iconst (pc := 206) C dL_law_206 ic_iconst_3 ?_
      refine g_iadd (pc := 207) C dL_law_207 ?_
      refine g_scld (pc := 208) C HX dL_law_208 ?_
      refine g_i2l (pc := 209) C dL_law_209 ?_
      refine g_ldc2 (pc := 210) C wl_L_13 dL_law_210 ?_
      refine g_land (pc := 213) C dL_law_213 ?_
      refine g_lor (pc := 214) C dL_law_214 ?_
      refine g_callW (pc := 215) C (g_runV (stk := [.int r2.1]) C (c_X9_feed F (sc (x3 + (1 : Int32)).toNatClampNeg) ((((sc (x3 + (2 : Int32)).toNatClampNeg).toInt64) <<< ((32 : Int32).toInt64 &&& 63)) ||| (((sc (x3 + (3 : Int32)).toNatClampNeg).toInt64) &&& (4294967295 : Int64))) r2.2) rfl rfl rfl kd_95 rfl wC_X9_feed wI_X9_feed wV_X9_feed wi_X9 wm_L_19 hy_X9_feed (by decide) (Nat.le_of_ble_eq_true rfl) dL_law_215) (fun r3 => ?_)
      refine g_icmp_eq (pc := 218) (tgt := 904) C dL_law_218 (by decide) ?_ ?_
      · refine g_iinc (pc := 904) (j := 3) (lv' := [(3, .int (x3 + (4 : Int32))), (0, .ref b), (1, .ref (xad X 0)), (2, .ref (xad X 95))]) C dL_law_904 rfl (ii_4 _) (by decide) rfl ?_
        refine g_goto (pc := 907) (tgt := 18) C dL_law_907 (by decide) ?_
        refine g_sub (lv' := [(0, .ref b), (1, .ref (xad X 0)), (2, .ref (xad X 95)), (3, .int (x3 + (4 : Int32)))]) [1, 2, 3, 0] rfl ?_
        exact hk18 (x3 + (4 : Int32)) r3.2
      · refine g_iconst (pc := 221) C dL_law_221 ic_iconst_0 ?_
        exact g_none
    refine g_case (pc := 32) (tgt := 223) (ai := 1) C dL_law_32 (by decide) (by decide) (by decide) rfl (by decide) ?_ (fun hc4 => ?_)
    · refine g_aload_n (pc := 223) C dL_law_223 rfl 1 rfl ?_
      refine g_callW (pc := 224) C (g_runV (stk := []) C (c_X8_town F M) rfl rfl rfl kd_0 rfl wC_X8_town wI_X8_town wV_X8_town wi_X8 wm_L_20 hy_X8_town (by decide) (Nat.le_of_ble_eq_true rfl) dL_law_224) (fun r5 => ?_)
      refine g_aload_n (pc := 227) C dL_law_227 rfl 2 rfl ?_
      refine g_callW (pc := 228) C (g_runV (stk := [.int r5.1]) C (c_X9_town F r5.2) rfl rfl rfl kd_95 rfl wC_X9_town wI_X9_town wV_X9_town wi_X9 wm_L_24 hy_X9_town (by decide) (Nat.le_of_ble_eq_true rfl) dL_law_228) (fun r6 => ?_)
      refine g_icmp_eq (pc := 231) (tgt := 904) C dL_law_231 (by decide) ?_ ?_
      · refine g_iinc (pc := 904) (j := 3) (lv' := [(3, .int (x3 + (4 : Int32))), (0, .ref b), (1, .ref (xad X 0)), (2, .ref (xad X 95))]) C dL_law_904 rfl (ii_4 _) (by decide) rfl ?_
        refine g_goto (pc := 907) (tgt := 18) C dL_law_907 (by decide) ?_
        refine g_sub (lv' := [(0, .ref b), (1, .ref (xad X 0)), (2, .ref (xad X 95)), (3, .int (x3 + (4 : Int32)))]) [1, 2, 3, 0] rfl ?_
        exact hk18 (x3 + (4 : Int32)) r6.2
      · refine g_iconst (pc := 234) C dL_law_234 ic_iconst_0 ?_
        exact g_none
    refine g_case (pc := 32) (tgt := 236) (ai := 2) C dL_law_32 (by decide) (by decide) (by decide) rfl (by decide) ?_ (fun hc7 => ?_)
    · refine g_aload_n (pc := 236) C dL_law_236 rfl 1 rfl ?_
      refine g_callR (pc := 237) C (g_runV (stk := []) C (c_X8_fault M) rfl rfl rfl kd_0 rfl wC_X8_fault wI_X8_fault wV_X8_fault wi_X8 wm_L_25 hy_X8_fault (by decide) (Nat.le_of_ble_eq_true rfl) dL_law_237) (fun r8 => ?_)
      refine g_aload_n (pc := 240) C dL_law_240 rfl 2 rfl ?_
      refine g_callR (pc := 241) C (g_runV (stk := [.int r8]) C (c_X9_fault M) rfl rfl rfl kd_95 rfl wC_X9_fault wI_X9_fault wV_X9_fault wi_X9 wm_L_28 hy_X9_fault (by decide) (Nat.le_of_ble_eq_true rfl) dL_law_241) (fun r9 => ?_)
      refine g_icmp_eq (pc := 244) (tgt := 904) C dL_law_244 (by decide) ?_ ?_
      · refine g_iinc (pc := 904) (j := 3) (lv' := [(3, .int (x3 + (4 : Int32))), (0, .ref b), (1, .ref (xad X 0)), (2, .ref (xad X 95))]) C dL_law_904 rfl (ii_4 _) (by decide) rfl ?_
        refine g_goto (pc := 907) (tgt := 18) C dL_law_907 (by decide) ?_
        refine g_sub (lv' := [(0, .ref b), (1, .ref (xad X 0)), (2, .ref (xad X 95)), (3, .int (x3 + (4 : Int32)))]) [1, 2, 3, 0] rfl ?_
        exact hk18 (x3 + (4 : Int32)) M
      · refine g_iconst (pc := 247) C dL_law_247 ic_iconst_0 ?_
        exact g_none
    refine g_case (pc := 32) (tgt := 249) (ai := 3) C dL_law_32 (by decide) (by decide) (by decide) rfl (by decide) ?_ (fun hc10 => ?_)
    · refine g_aload_n (pc := 249) C dL_law_249 rfl 1 rfl ?_
      refine g_aload_n (pc := 250) C dL_law_250 rfl 0 rfl ?_
      refine g_iload_n (pc := 251) C dL_law_251 rfl 3 rfl ?_
      refine g_iconst (pc := 252) C dL_law_252 ic_iconst_1 ?_
      refine g_iadd (pc := 253) C dL_law_253 ?_
      refine g_scld (pc := 254) C HX dL_law_254 ?_
      refine g_callR (pc := 255) C (g_runV (stk := []) C (c_X8_told F (sc (x3 + (1 : Int32)).toNatClampNeg) M) rfl rfl rfl kd_0 rfl wC_X8_told wI_X8_told wV_X8_told wi_X8 wm_L_29 hy_X8_told (by decide) (Nat.le_of_ble_eq_true rfl) dL_law_255) (fun r11 => ?_)
      refine g_aload_n (pc := 258) C dL_law_258 rfl 2 rfl ?_
      refine g_aload_n (pc := 259) C dL_law_259 rfl 0 rfl ?_
      refine g_iload_n (pc := 260) C dL_law_260 rfl 3 rfl ?_
      refine g_iconst (pc := 261) C dL_law_261 ic_iconst_1 ?_
      refine g_iadd (pc := 262) C dL_law_262 ?_
      refine g_scld (pc := 263) C HX dL_law_263 ?_
      refine g_callR (pc := 264) C (g_runV (stk := [.int r11]) C (c_X9_told F (sc (x3 + (1 : Int32)).toNatClampNeg) M) rfl rfl rfl kd_95 rfl wC_X9_told wI_X9_told wV_X9_told wi_X9 wm_L_33 hy_X9_told (by decide) (Nat.le_of_ble_eq_true rfl) dL_law_264) (fun r12 => ?_)
      refine g_icmp_eq (pc := 267) (tgt := 904) C dL_law_267 (by decide) ?_ ?_
      · refine g_iinc (pc := 904) (j := 3) (lv' := [(3, .int (x3 + (4 : Int32))), (0, .ref b), (1, .ref (xad X 0)), (2, .ref (xad X 95))]) C dL_law_904 rfl (ii_4 _) (by decide) rfl ?_
        refine g_goto (pc := 907) (tgt := 18) C dL_law_907 (by decide) ?_
        refine g_sub (lv' := [(0, .ref b), (1, .ref (xad X 0)), (2, .ref (xad X 95)), (3, .int (x3 + (4 : Int32)))]) [1, 2, 3, 0] rfl ?_
        exact hk18 (x3 + (4 : Int32)) M
      · refine g_iconst (pc := 270) C dL_law_270 ic_iconst_0 ?_
        exact g_none
    refine g_case (pc := 32) (tgt := 272) (ai := 4) C dL_law_32 (by decide) (by decide) (by decide) rfl (by decide) ?_ (fun hc13 => ?_)
    · refine g_aload_n (pc := 272) C dL_law_272 rfl 1 rfl ?_
      refine g_aload_n (pc := 273) C dL_law_273 rfl 0 rfl ?_
      refine g_iload_n (pc := 274) C dL_law_274 rfl 3 rfl ?_
      refine g_iconst (pc := 275) C dL_law_275 ic_iconst_1 ?_
      refine g_iadd (pc := 276) C dL_law_276 ?_
      refine g_scld (pc := 277) C HX dL_law_277 ?_
      refine g_aload_n (pc := 278) C dL_law_278 rfl 0 rfl ?_
      refine g_iload_n (pc := 279) C dL_law_279 rfl 3 rfl ?_
      refine g_iconst (pc := 280) C dL_law_280 ic_iconst_2 ?_
      refine g_iadd (pc := 281) C dL_law_281 ?_
      refine g_scld (pc := 282) C HX dL_law_282 ?_
      refine g_callR (pc := 283) C (g_runV (stk := []) C (c_X8_part (sc (x3 + (1 : Int32)).toNatClampNeg) (sc (x3 + (2 : Int32)).toNatClampNeg) M) rfl rfl rfl kd_0 rfl wC_X8_part wI_X8_part wV_X8_part wi_X8 wm_L_34 hy_X8_part (by decide) (Nat.le_of_ble_eq_true rfl) dL_law_283) (fun r14 => ?_)
      refine g_aload_n (pc := 286) C dL_law_286 rfl 2 rfl ?_
      refine g_aload_n (pc := 287) C dL_law_287 rfl 0 rfl ?_
      refine g_iload_n (pc := 288) C dL_law_288 rfl 3 rfl ?_
      refine g_iconst (pc := 289) C dL_law_289 ic_iconst_1 ?_
      refine g_iadd (pc := 290) C dL_law_290 ?_
      refine g_scld (pc := 291) C HX dL_law_291 ?_
      refine g_aload_n (pc := 292) C dL_law_292 rfl 0 rfl ?_
      refine g_iload_n (pc := 293) C dL_law_293 rfl 3 rfl ?_
      refine g_iconst (pc := 294) C dL_law_294 ic_iconst_2 ?_
      refine g_iadd (pc := 295) C dL_law_295 ?_
      refine g_scld (pc := 296) C HX dL_law_296 ?_
      refine g_callR (pc := 297) C (g_runV (stk := [.int r14]) C (c_X9_part (sc (x3 + (1 : Int32)).toNatClampNeg) (sc (x3 + (2 : Int32)).toNatClampNeg) M) rfl rfl rfl kd_95 rfl wC_X9_part wI_X9_part wV_X9_part wi_X9 wm_L_38 hy_X9_part (by decide) (Nat.le_of_ble_eq_true rfl) dL_law_297) (fun r15 => ?_)
      refine g_icmp_eq (pc := 300) (tgt := 904) C dL_law_300 (by decide) ?_ ?_
      · refine g_iinc (pc := 904) (j := 3) (lv' := [(3, .int (x3 + (4 : Int32))), (0, .ref b), (1, .ref (xad X 0)), (2, .ref (xad X 95))]) C dL_law_904 rfl (ii_4 _) (by decide) rfl ?_
        refine g_goto (pc := 907) (tgt := 18) C dL_law_907 (by decide) ?_
        refine g_sub (lv' := [(0, .ref b), (1, .ref (xad X 0)), (2, .ref (xad X 95)), (3, .int (x3 + (4 : Int32)))]) [1, 2, 3, 0] rfl ?_
        exact hk18 (x3 + (4 : Int32)) M
      · refine g_iconst (pc := 303) C dL_law_303 ic_iconst_0 ?_
        exact g_none
    refine g_case (pc := 32) (tgt := 305) (ai := 5) C dL_law_32 (by decide) (by decide) (by decide) rfl (by decide) ?_ (fun hc16 => ?_)
    · refine g_aload_n (pc := 305) C dL_law_305 rfl 1 rfl ?_
      refine g_aload_n (pc := 306) C dL_law_306 rfl 0 rfl ?_
      refine g_iload_n (pc := 307) C dL_law_307 rfl 3 rfl ?_
      refine g_iconst (pc := 308) C dL_law_308 ic_iconst_1 ?_
      refine g_iadd (pc := 309) C dL_law_309 ?_
      refine g_scld (pc := 310) C HX dL_law_310 ?_
      refine g_aload_n (pc := 311) C dL_law_311 rfl 0 rfl ?_
      refine g_iload_n (pc := 312) C dL_law_312 rfl 3 rfl ?_
      refine g_iconst (pc := 313) C dL_law_313 ic_iconst_2 ?_
      refine g_iadd (pc := 314) C dL_law_314 ?_
      refine g_scld (pc := 315) C HX dL_law_315 ?_
      refine g_callR (pc := 316) C (g_runV (stk := []) C (c_X8_scene (sc (x3 + (1 : Int32)).toNatClampNeg) (sc (x3 + (2 : Int32)).toNatClampNeg) M) rfl rfl rfl kd_0 rfl wC_X8_scene wI_X8_scene wV_X8_scene wi_X8 wm_L_39 hy_X8_scene (by decide) (Nat.le_of_ble_eq_true rfl) dL_law_316) (fun r17 => ?_)
      refine g_aload_n (pc := 319) C dL_law_319 rfl 2 rfl ?_
      refine g_aload_n (pc := 320) C dL_law_320 rfl 0 rfl ?_
      refine g_iload_n (pc := 321) C dL_law_321 rfl 3 rfl ?_
      refine g_iconst (pc := 322) C dL_law_322 ic_iconst_1 ?_
      refine g_iadd (pc := 323) C dL_law_323 ?_
      refine g_scld (pc := 324) C HX dL_law_324 ?_
      refine g_aload_n (pc := 325) C dL_law_325 rfl 0 rfl ?_
      refine g_iload_n (pc := 326) C dL_law_326 rfl 3 rfl ?_
      refine g_iconst (pc := 327) C dL_law_327 ic_iconst_2 ?_
      refine g_iadd (pc := 328) C dL_law_328 ?_
      refine g_scld (pc := 329) C HX dL_law_329 ?_
      refine g_callR (pc := 330) C (g_runV (stk := [.int r17]) C (c_X9_scene (sc (x3 + (1 : Int32)).toNatClampNeg) (sc (x3 + (2 : Int32)).toNatClampNeg) M) rfl rfl rfl kd_95 rfl wC_X9_scene wI_X9_scene wV_X9_scene wi_X9 wm_L_42 hy_X9_scene (by decide) (Nat.le_of_ble_eq_true rfl) dL_law_330) (fun r18 => ?_)
      refine g_icmp_eq (pc := 333) (tgt := 904) C dL_law_333 (by decide) ?_ ?_
      · refine g_iinc (pc := 904) (j := 3) (lv' := [(3, .int (x3 + (4 : Int32))), (0, .ref b), (1, .ref (xad X 0)), (2, .ref (xad X 95))]) C dL_law_904 rfl (ii_4 _) (by decide) rfl ?_
        refine g_goto (pc := 907) (tgt := 18) C dL_law_907 (by decide) ?_
        refine g_sub (lv' := [(0, .ref b), (1, .ref (xad X 0)), (2, .ref (xad X 95)), (3, .int (x3 + (4 : Int32)))]) [1, 2, 3, 0] rfl ?_
        exact hk18 (x3 + (4 : Int32)) M
      · refine g_iconst (pc := 336) C dL_law_336 ic_iconst_0 ?_
        exact g_none
    refine g_case (pc := 32) (tgt := 338) (ai := 6) C dL_law_32 (by decide) (by decide) (by decide) rfl (by decide) ?_ (fun hc19 => ?_)
    · refine g_aload_n (pc := 338) C dL_law_338 rfl 1 rfl ?_
      refine g_aload_n (pc := 339) C dL_law_339 rfl 0 rfl ?_
      refine g_iload_n (pc := 340) C dL_law_340 rfl 3 rfl ?_
      refine g_iconst (pc := 341) C dL_law_341 ic_iconst_1 ?_
      refine g_iadd (pc := 342) C dL_law_342 ?_
      refine g_scld (pc := 343) C HX dL_law_343 ?_
      refine g_aload_n (pc := 344) C dL_law_344 rfl 0 rfl ?_
      refine g_iload_n (pc := 345) C dL_law_345 rfl 3 rfl ?_
      refine g_iconst (pc := 346) C dL_law_346 ic_iconst_2 ?_
      refine g_iadd (pc := 347) C dL_law_347 ?_
      refine g_scld (pc := 348) C HX dL_law_348 ?_
      refine g_callR (pc := 349) C (g_runV (stk := []) C (c_X8_look (sc (x3 + (1 : Int32)).toNatClampNeg) (sc (x3 + (2 : Int32)).toNatClampNeg) M) rfl rfl rfl kd_0 rfl wC_X8_look wI_X8_look wV_X8_look wi_X8 wm_L_43 hy_X8_look (by decide) (Nat.le_of_ble_eq_true rfl) dL_law_349) (fun r20 => ?_)
      refine g_aload_n (pc := 352) C dL_law_352 rfl 2 rfl ?_
      refine g_aload_n (pc := 353) C dL_law_353 rfl 0 rfl ?_
      refine g_iload_n (pc := 354) C dL_law_354 rfl 3 rfl ?_
      refine g_iconst (pc := 355) C dL_law_355 ic_iconst_1 ?_
      refine g_iadd (pc := 356) C dL_law_356 ?_
      refine g_scld (pc := 357) C HX dL_law_357 ?_
      refine g_aload_n (pc := 358) C dL_law_358 rfl 0 rfl ?_
      refine g_iload_n (pc := 359) C dL_law_359 rfl 3 rfl ?_
      refine g_iconst (pc := 360) C dL_law_360 ic_iconst_2 ?_
      refine g_iadd (pc := 361) C dL_law_361 ?_
      refine g_scld (pc := 362) C HX dL_law_362 ?_
      refine g_callR (pc := 363) C (g_runV (stk := [.int r20]) C (c_X9_look F (sc (x3 + (1 : Int32)).toNatClampNeg) (sc (x3 + (2 : Int32)).toNatClampNeg) M) rfl rfl rfl kd_95 rfl wC_X9_look wI_X9_look wV_X9_look wi_X9 wm_L_46 hy_X9_look (by decide) (Nat.le_of_ble_eq_true rfl) dL_law_363) (fun r21 => ?_)
      refine g_icmp_eq (pc := 366) (tgt := 904) C dL_law_366 (by decide) ?_ ?_
      · refine g_iinc (pc := 904) (j := 3) (lv' := [(3, .int (x3 + (4 : Int32))), (0, .ref b), (1, .ref (xad X 0)), (2, .ref (xad X 95))]) C dL_law_904 rfl (ii_4 _) (by decide) rfl ?_
        refine g_goto (pc := 907) (tgt := 18) C dL_law_907 (by decide) ?_
        refine g_sub (lv' := [(0, .ref b), (1, .ref (xad X 0)), (2, .ref (xad X 95)), (3, .int (x3 + (4 : Int32)))]) [1, 2, 3, 0] rfl ?_
        exact hk18 (x3 + (4 : Int32)) M
      · refine g_iconst (pc := 369) C dL_law_369 ic_iconst_0 ?_
        exact g_none
    refine g_case (pc := 32) (tgt := 371) (ai := 7) C dL_law_32 (by decide) (by decide) (by decide) rfl (by decide) ?_ (fun hc22 => ?_)
    · refine g_aload_n (pc := 371) C dL_law_371 rfl 1 rfl ?_
      refine g_aload_n (pc := 372) C dL_law_372 rfl 0 rfl ?_
      refine g_iload_n (pc := 373) C dL_law_373 rfl 3 rfl ?_
      refine g_iconst (pc := 374) C dL_law_374 ic_iconst_1 ?_
      refine g_iadd (pc := 375) C dL_law_375 ?_
      refine g_scld (pc := 376) C HX dL_law_376 ?_
      refine g_callW (pc := 377) C (g_runV (stk := []) C (c_X8_law (sc (x3 + (1 : Int32)).toNatClampNeg) M) rfl rfl rfl kd_0 rfl wC_X8_law wI_X8_law wV_X8_law wi_X8 wm_L_47 hy_X8_law (by decide) (Nat.le_of_ble_eq_true rfl) dL_law_377) (fun r23 => ?_)
      refine g_aload_n (pc := 380) C dL_law_380 rfl 2 rfl ?_
      refine g_aload_n (pc := 381) C dL_law_381 rfl 0 rfl ?_
      refine g_iload_n (pc := 382) C dL_law_382 rfl 3 rfl ?_
      refine g_iconst (pc := 383) C dL_law_383 ic_iconst_1 ?_
      refine g_iadd (pc := 384) C dL_law_384 ?_
      refine g_scld (pc := 385) C HX dL_law_385 ?_
      refine g_callW (pc := 386) C (g_runV (stk := [.int r23.1]) C (c_X9_law (sc (x3 + (1 : Int32)).toNatClampNeg) r23.2) rfl rfl rfl kd_95 rfl wC_X9_law wI_X9_law wV_X9_law wi_X9 wm_L_50 hy_X9_law (by decide) (Nat.le_of_ble_eq_true rfl) dL_law_386) (fun r24 => ?_)
      refine g_icmp_eq (pc := 389) (tgt := 904) C dL_law_389 (by decide) ?_ ?_
      · refine g_iinc (pc := 904) (j := 3) (lv' := [(3, .int (x3 + (4 : Int32))), (0, .ref b), (1, .ref (xad X 0)), (2, .ref (xad X 95))]) C dL_law_904 rfl (ii_4 _) (by decide) rfl ?_
        refine g_goto (pc := 907) (tgt := 18) C dL_law_907 (by decide) ?_
        refine g_sub (lv' := [(0, .ref b), (1, .ref (xad X 0)), (2, .ref (xad X 95)), (3, .int (x3 + (4 : Int32)))]) [1, 2, 3, 0] rfl ?_
        exact hk18 (x3 + (4 : Int32)) r24.2
      · refine g_iconst (pc := 392) C dL_law_392 ic_iconst_0 ?_
        exact g_none
    refine g_case (pc := 32) (tgt := 394) (ai := 8) C dL_law_32 (by decide) (by decide) (by decide) rfl (by decide) ?_ (fun hc25 => ?_)
    · refine g_aload_n (pc := 394) C dL_law_394 rfl 1 rfl ?_
      refine g_aload_n (pc := 395) C dL_law_395 rfl 0 rfl ?_
      refine g_iload_n (pc := 396) C dL_law_396 rfl 3 rfl ?_
      refine g_iconst (pc := 397) C dL_law_397 ic_iconst_1 ?_
      refine g_iadd (pc := 398) C dL_law_398 ?_
      refine g_scld (pc := 399) C HX dL_law_399 ?_
      refine g_aload_n (pc := 400) C dL_law_400 rfl 0 rfl ?_
      refine g_iload_n (pc := 401) C dL_law_401 rfl 3 rfl ?_
      refine g_iconst (pc := 402) C dL_law_402 ic_iconst_2 ?_
      refine g_iadd (pc := 403) C dL_law_403 ?_
      refine g_scld (pc := 404) C HX dL_law_404 ?_
      refine g_callW (pc := 405) C (g_runV (stk := []) C (c_X8_price (sc (x3 + (1 : Int32)).toNatClampNeg) (sc (x3 + (2 : Int32)).toNatClampNeg) M) rfl rfl rfl kd_0 rfl wC_X8_price wI_X8_price wV_X8_price wi_X8 wm_L_51 hy_X8_price (by decide) (Nat.le_of_ble_eq_true rfl) dL_law_405) (fun r26 => ?_)
      refine g_aload_n (pc := 408) C dL_law_408 rfl 2 rfl ?_
      refine g_aload_n (pc := 409) C dL_law_409 rfl 0 rfl ?_
      refine g_iload_n (pc := 410) C dL_law_410 rfl 3 rfl ?_
      refine g_iconst (pc := 411) C dL_law_411 ic_iconst_1 ?_
      refine g_iadd (pc := 412) C dL_law_412 ?_
      refine g_scld (pc := 413) C HX dL_law_413 ?_
      refine g_aload_n (pc := 414) C dL_law_414 rfl 0 rfl ?_
      refine g_iload_n (pc := 415) C dL_law_415 rfl 3 rfl ?_
      refine g_iconst (pc := 416) C dL_law_416 ic_iconst_2 ?_
      refine g_iadd (pc := 417) C dL_law_417 ?_
      refine g_scld (pc := 418) C HX dL_law_418 ?_
      refine g_callW (pc := 419) C (g_runV (stk := [.int r26.1]) C (c_X9_price (sc (x3 + (1 : Int32)).toNatClampNeg) (sc (x3 + (2 : Int32)).toNatClampNeg) r26.2) rfl rfl rfl kd_95 rfl wC_X9_price wI_X9_price wV_X9_price wi_X9 wm_L_54 hy_X9_price (by decide) (Nat.le_of_ble_eq_true rfl) dL_law_419) (fun r27 => ?_)
      refine g_icmp_eq (pc := 422) (tgt := 904) C dL_law_422 (by decide) ?_ ?_
      · refine g_iinc (pc := 904) (j := 3) (lv' := [(3, .int (x3 + (4 : Int32))), (0, .ref b), (1, .ref (xad X 0)), (2, .ref (xad X 95))]) C dL_law_904 rfl (ii_4 _) (by decide) rfl ?_
        refine g_goto (pc := 907) (tgt := 18) C dL_law_907 (by decide) ?_
        refine g_sub (lv' := [(0, .ref b), (1, .ref (xad X 0)), (2, .ref (xad X 95)), (3, .int (x3 + (4 : Int32)))]) [1, 2, 3, 0] rfl ?_
        exact hk18 (x3 + (4 : Int32)) r27.2
      · refine g_iconst (pc := 425) C dL_law_425 ic_iconst_0 ?_
        exact g_none
    refine g_case (pc := 32) (tgt := 427) (ai := 9) C dL_law_32 (by decide) (by decide) (by decide) rfl (by decide) ?_ (fun hc28 => ?_)
    · refine g_aload_n (pc := 427) C dL_law_427 rfl 1 rfl ?_
      refine g_aload_n (pc := 428) C dL_law_428 rfl 0 rfl ?_
      refine g_iload_n (pc := 429) C dL_law_429 rfl 3 rfl ?_
      refine g_iconst (pc := 430) C dL_law_430 ic_iconst_1 ?_
      refine g_iadd (pc := 431) C dL_law_431 ?_
      refine g_scld (pc := 432) C HX dL_law_432 ?_
      refine g_aload_n (pc := 433) C dL_law_433 rfl 0 rfl ?_
      refine g_iload_n (pc := 434) C dL_law_434 rfl 3 rfl ?_
      refine g_iconst (pc := 435) C dL_law_435 ic_iconst_2 ?_
      refine g_iadd (pc := 436) C dL_law_436 ?_
      refine g_scld (pc := 437) C HX dL_law_437 ?_
      refine g_callW (pc := 438) C (g_runV (stk := []) C (c_X8_width (sc (x3 + (1 : Int32)).toNatClampNeg) (sc (x3 + (2 : Int32)).toNatClampNeg) M) rfl rfl rfl kd_0 rfl wC_X8_width wI_X8_width wV_X8_width wi_X8 wm_L_55 hy_X8_width (by decide) (Nat.le_of_ble_eq_true rfl) dL_law_438) (fun r29 => ?_)
      refine g_aload_n (pc := 441) C dL_law_441 rfl 2 rfl ?_
      refine g_aload_n (pc := 442) C dL_law_442 rfl 0 rfl ?_
      refine g_iload_n (pc := 443) C dL_law_443 rfl 3 rfl ?_
      refine g_iconst (pc := 444) C dL_law_444 ic_iconst_1 ?_
      refine g_iadd (pc := 445) C dL_law_445 ?_
      refine g_scld (pc := 446) C HX dL_law_446 ?_
      refine g_aload_n (pc := 447) C dL_law_447 rfl 0 rfl ?_
      refine g_iload_n (pc := 448) C dL_law_448 rfl 3 rfl ?_
      refine g_iconst (pc := 449) C dL_law_449 ic_iconst_2 ?_
      refine g_iadd (pc := 450) C dL_law_450 ?_
      refine g_scld (pc := 451) C HX dL_law_451 ?_
      refine g_callW (pc := 452) C (g_runV (stk := [.int r29.1]) C (c_X9_width (sc (x3 + (1 : Int32)).toNatClampNeg) (sc (x3 + (2 : Int32)).toNatClampNeg) r29.2) rfl rfl rfl kd_95 rfl wC_X9_width wI_X9_width wV_X9_width wi_X9 wm_L_58 hy_X9_width (by decide) (Nat.le_of_ble_eq_true rfl) dL_law_452) (fun r30 => ?_)
      refine g_icmp_eq (pc := 455) (tgt := 904) C dL_law_455 (by decide) ?_ ?_
      · refine g_iinc (pc := 904) (j := 3) (lv' := [(3, .int (x3 + (4 : Int32))), (0, .ref b), (1, .ref (xad X 0)), (2, .ref (xad X 95))]) C dL_law_904 rfl (ii_4 _) (by decide) rfl ?_
        refine g_goto (pc := 907) (tgt := 18) C dL_law_907 (by decide) ?_
        refine g_sub (lv' := [(0, .ref b), (1, .ref (xad X 0)), (2, .ref (xad X 95)), (3, .int (x3 + (4 : Int32)))]) [1, 2, 3, 0] rfl ?_
        exact hk18 (x3 + (4 : Int32)) r30.2
      · refine g_iconst (pc := 458) C dL_law_458 ic_iconst_0 ?_
        exact g_none
    refine g_case (pc := 32) (tgt := 460) (ai := 10) C dL_law_32 (by decide) (by decide) (by decide) rfl (by decide) ?_ (fun hc31 => ?_)
    · refine g_aload_n (pc := 460) C dL_law_460 rfl 1 rfl ?_
      refine g_aload_n (pc := 461) C dL_law_461 rfl 0 rfl ?_
      refine g_iload_n (pc := 462) C dL_law_462 rfl 3 rfl ?_
      refine g_iconst (pc := 463) C dL_law_463 ic_iconst_1 ?_
      refine g_iadd (pc := 464) C dL_law_464 ?_
      refine g_scld (pc := 465) C HX dL_law_465 ?_
      refine g_aload_n (pc := 466) C dL_law_466 rfl 0 rfl ?_
      refine g_iload_n (pc := 467) C dL_law_467 rfl 3 rfl ?_
      refine g_iconst (pc := 468) C dL_law_468 ic_iconst_2 ?_
      refine g_iadd (pc := 469) C dL_law_469 ?_
      refine g_scld (pc := 470) C HX dL_law_470 ?_
      refine g_callR (pc := 471) C (g_runV (stk := []) C (c_X8_cheapest F (sc (x3 + (1 : Int32)).toNatClampNeg) (sc (x3 + (2 : Int32)).toNatClampNeg) M) rfl rfl rfl kd_0 rfl wC_X8_cheapest wI_X8_cheapest wV_X8_cheapest wi_X8 wm_L_59 hy_X8_cheapest (by decide) (Nat.le_of_ble_eq_true rfl) dL_law_471) (fun r32 => ?_)
      refine g_aload_n (pc := 474) C dL_law_474 rfl 2 rfl ?_
      refine g_aload_n (pc := 475) C dL_law_475 rfl 0 rfl ?_
      refine g_iload_n (pc := 476) C dL_law_476 rfl 3 rfl ?_
      refine g_iconst (pc := 477) C dL_law_477 ic_iconst_1 ?_
      refine g_iadd (pc := 478) C dL_law_478 ?_
      refine g_scld (pc := 479) C HX dL_law_479 ?_
      refine g_aload_n (pc := 480) C dL_law_480 rfl 0 rfl ?_
      refine g_iload_n (pc := 481) C dL_law_481 rfl 3 rfl ?_
      refine g_iconst (pc := 482) C dL_law_482 ic_iconst_2 ?_
      refine g_iadd (pc := 483) C dL_law_483 ?_
      refine g_scld (pc := 484) C HX dL_law_484 ?_
      refine g_callR (pc := 485) C (g_runV (stk := [.int r32]) C (c_X9_cheapest F (sc (x3 + (1 : Int32)).toNatClampNeg) (sc (x3 + (2 : Int32)).toNatClampNeg) M) rfl rfl rfl kd_95 rfl wC_X9_cheapest wI_X9_cheapest wV_X9_cheapest wi_X9 wm_L_62 hy_X9_cheapest (by decide) (Nat.le_of_ble_eq_true rfl) dL_law_485) (fun r33 => ?_)
      refine g_icmp_eq (pc := 488) (tgt := 904) C dL_law_488 (by decide) ?_ ?_
      · refine g_iinc (pc := 904) (j := 3) (lv' := [(3, .int (x3 + (4 : Int32))), (0, .ref b), (1, .ref (xad X 0)), (2, .ref (xad X 95))]) C dL_law_904 rfl (ii_4 _) (by decide) rfl ?_
        refine g_goto (pc := 907) (tgt := 18) C dL_law_907 (by decide) ?_
        refine g_sub (lv' := [(0, .ref b), (1, .ref (xad X 0)), (2, .ref (xad X 95)), (3, .int (x3 + (4 : Int32)))]) [1, 2, 3, 0] rfl ?_
        exact hk18 (x3 + (4 : Int32)) M
      · refine g_iconst (pc := 491) C dL_law_491 ic_iconst_0 ?_
        exact g_none
    refine g_case (pc := 32) (tgt := 493) (ai := 11) C dL_law_32 (by decide) (by decide) (by decide) rfl (by decide) ?_ (fun hc34 => ?_)
    · refine g_aload_n (pc := 493) C dL_law_493 rfl 1 rfl ?_
      refine g_aload_n (pc := 494) C dL_law_494 rfl 0 rfl ?_
      refine g_iload_n (pc := 495) C dL_law_495 rfl 3 rfl ?_
      refine g_iconst (pc := 496) C dL_law_496 ic_iconst_1 ?_
      refine g_iadd (pc := 497) C dL_law_497 ?_
      refine g_scld (pc := 498) C HX dL_law_498 ?_
      refine g_callW (pc := 499) C (g_runV (stk := []) C (c_X8_dressing F (sc (x3 + (1 : Int32)).toNatClampNeg) M) rfl rfl rfl kd_0 rfl wC_X8_dressing wI_X8_dressing wV_X8_dressing wi_X8 wm_L_63 hy_X8_dressing (by decide) (Nat.le_of_ble_eq_true rfl) dL_law_499) (fun r35 => ?_)
      refine g_aload_n (pc := 502) C dL_law_502 rfl 2 rfl ?_
      refine g_aload_n (pc := 503) C dL_law_503 rfl 0 rfl ?_
      refine g_iload_n (pc := 504) C dL_law_504 rfl 3 rfl ?_
      refine g_iconst (pc := 505) C dL_law_505 ic_iconst_1 ?_
      refine g_iadd (pc := 506) C dL_law_506 ?_
      refine g_scld (pc := 507) C HX dL_law_507 ?_
      refine g_callW (pc := 508) C (g_runV (stk := [.int r35.1]) C (c_X9_dressing F (sc (x3 + (1 : Int32)).toNatClampNeg) r35.2) rfl rfl rfl kd_95 rfl wC_X9_dressing wI_X9_dressing wV_X9_dressing wi_X9 wm_L_66 hy_X9_dressing (by decide) (Nat.le_of_ble_eq_true rfl) dL_law_508) (fun r36 => ?_)
      refine g_icmp_eq (pc := 511) (tgt := 904) C dL_law_511 (by decide) ?_ ?_
      · refine g_iinc (pc := 904) (j := 3) (lv' := [(3, .int (x3 + (4 : Int32))), (0, .ref b), (1, .ref (xad X 0)), (2, .ref (xad X 95))]) C dL_law_904 rfl (ii_4 _) (by decide) rfl ?_
        refine g_goto (pc := 907) (tgt := 18) C dL_law_907 (by decide) ?_
        refine g_sub (lv' := [(0, .ref b), (1, .ref (xad X 0)), (2, .ref (xad X 95)), (3, .int (x3 + (4 : Int32)))]) [1, 2, 3, 0] rfl ?_
        exact hk18 (x3 + (4 : Int32)) r36.2
      · refine g_iconst (pc := 514) C dL_law_514 ic_iconst_0 ?_
        exact g_none
    refine g_case (pc := 32) (tgt := 516) (ai := 12) C dL_law_32 (by decide) (by decide) (by decide) rfl (by decide) ?_ (fun hc37 => ?_)
    · refine g_aload_n (pc := 516) C dL_law_516 rfl 1 rfl ?_
      refine g_aload_n (pc := 517) C dL_law_517 rfl 0 rfl ?_
      refine g_iload_n (pc := 518) C dL_law_518 rfl 3 rfl ?_
      refine g_iconst (pc := 519) C dL_law_519 ic_iconst_1 ?_
      refine g_iadd (pc := 520) C dL_law_520 ?_
      refine g_scld (pc := 521) C HX dL_law_521 ?_
      refine g_callW (pc := 522) C (g_runV (stk := []) C (c_X8_rent F (sc (x3 + (1 : Int32)).toNatClampNeg) M) rfl rfl rfl kd_0 rfl wC_X8_rent wI_X8_rent wV_X8_rent wi_X8 wm_L_67 hy_X8_rent (by decide) (Nat.le_of_ble_eq_true rfl) dL_law_522) (fun r38 => ?_)
      refine g_aload_n (pc := 525) C dL_law_525 rfl 2 rfl ?_
      refine g_aload_n (pc := 526) C dL_law_526 rfl 0 rfl ?_
      refine g_iload_n (pc := 527) C dL_law_527 rfl 3 rfl ?_
      refine g_iconst (pc := 528) C dL_law_528 ic_iconst_1 ?_
      refine g_iadd (pc := 529) C dL_law_529 ?_
      refine g_scld (pc := 530) C HX dL_law_530 ?_
      refine g_callW (pc := 531) C (g_runV (stk := [.int r38.1]) C (c_X9_rent F (sc (x3 + (1 : Int32)).toNatClampNeg) r38.2) rfl rfl rfl kd_95 rfl wC_X9_rent wI_X9_rent wV_X9_rent wi_X9 wm_L_70 hy_X9_rent (by decide) (Nat.le_of_ble_eq_true rfl) dL_law_531) (fun r39 => ?_)
      refine g_icmp_eq (pc := 534) (tgt := 904) C dL_law_534 (by decide) ?_ ?_
      · refine g_iinc (pc := 904) (j := 3) (lv' := [(3, .int (x3 + (4 : Int32))), (0, .ref b), (1, .ref (xad X 0)), (2, .ref (xad X 95))]) C dL_law_904 rfl (ii_4 _) (by decide) rfl ?_
        refine g_goto (pc := 907) (tgt := 18) C dL_law_907 (by decide) ?_
        refine g_sub (lv' := [(0, .ref b), (1, .ref (xad X 0)), (2, .ref (xad X 95)), (3, .int (x3 + (4 : Int32)))]) [1, 2, 3, 0] rfl ?_
        exact hk18 (x3 + (4 : Int32)) r39.2
      · refine g_iconst (pc := 537) C dL_law_537 ic_iconst_0 ?_
        exact g_none
    refine g_case (pc := 32) (tgt := 539) (ai := 13) C dL_law_32 (by decide) (by decide) (by decide) rfl (by decide) ?_ (fun hc40 => ?_)
    · refine g_aload_n (pc := 539) C dL_law_539 rfl 1 rfl ?_
      refine g_aload_n (pc := 540) C dL_law_540 rfl 0 rfl ?_
      refine g_iload_n (pc := 541) C dL_law_541 rfl 3 rfl ?_
      refine g_iconst (pc := 542) C dL_law_542 ic_iconst_1 ?_
      refine g_iadd (pc := 543) C dL_law_543 ?_
      refine g_scld (pc := 544) C HX dL_law_544 ?_
      refine g_callW (pc := 545) C (g_runV (stk := []) C (c_X8_without F (sc (x3 + (1 : Int32)).toNatClampNeg) M) rfl rfl rfl kd_0 rfl wC_X8_without wI_X8_without wV_X8_without wi_X8 wm_L_71 hy_X8_without (by decide) (Nat.le_of_ble_eq_true rfl) dL_law_545) (fun r41 => ?_)
      refine g_aload_n (pc := 548) C dL_law_548 rfl 2 rfl ?_
      refine g_aload_n (pc := 549) C dL_law_549 rfl 0 rfl ?_
      refine g_iload_n (pc := 550) C dL_law_550 rfl 3 rfl ?_
      refine g_iconst (pc := 551) C dL_law_551 ic_iconst_1 ?_
      refine g_iadd (pc := 552) C dL_law_552 ?_
      refine g_scld (pc := 553) C HX dL_law_553 ?_
      refine g_callW (pc := 554) C (g_runV (stk := [.int r41.1]) C (c_X9_without F (sc (x3 + (1 : Int32)).toNatClampNeg) r41.2) rfl rfl rfl kd_95 rfl wC_X9_without wI_X9_without wV_X9_without wi_X9 wm_L_74 hy_X9_without (by decide) (Nat.le_of_ble_eq_true rfl) dL_law_554) (fun r42 => ?_)
      refine g_icmp_eq (pc := 557) (tgt := 904) C dL_law_557 (by decide) ?_ ?_
      · refine g_iinc (pc := 904) (j := 3) (lv' := [(3, .int (x3 + (4 : Int32))), (0, .ref b), (1, .ref (xad X 0)), (2, .ref (xad X 95))]) C dL_law_904 rfl (ii_4 _) (by decide) rfl ?_
        refine g_goto (pc := 907) (tgt := 18) C dL_law_907 (by decide) ?_
        refine g_sub (lv' := [(0, .ref b), (1, .ref (xad X 0)), (2, .ref (xad X 95)), (3, .int (x3 + (4 : Int32)))]) [1, 2, 3, 0] rfl ?_
        exact hk18 (x3 + (4 : Int32)) r42.2
      · refine g_iconst (pc := 560) C dL_law_560 ic_iconst_0 ?_
        exact g_none
    refine g_case (pc := 32) (tgt := 562) (ai := 14) C dL_law_32 (by decide) (by decide) (by decide) rfl (by decide) ?_ (fun hc43 => ?_)
    · refine g_aload_n (pc := 562) C dL_law_562 rfl 1 rfl ?_
      refine g_aload_n (pc := 563) C dL_law_563 rfl 0 rfl ?_
      refine g_iload_n (pc := 564) C dL_law_564 rfl 3 rfl ?_
      refine g_iconst (pc := 565) C dL_law_565 ic_iconst_1 ?_
      refine g_iadd (pc := 566) C dL_law_566 ?_
      refine g_scld (pc := 567) C HX dL_law_567 ?_
      refine g_aload_n (pc := 568) C dL_law_568 rfl 0 rfl ?_
      refine g_iload_n (pc := 569) C dL_law_569 rfl 3 rfl ?_
      refine g_iconst (pc := 570) C dL_law_570 ic_iconst_2 ?_
      refine g_iadd (pc := 571) C dL_law_571 ?_
      refine g_scld (pc := 572) C HX dL_law_572 ?_
      refine g_callW (pc := 573) C (g_runV (stk := []) C (c_X8_raise F (sc (x3 + (1 : Int32)).toNatClampNeg) (sc (x3 + (2 : Int32)).toNatClampNeg) M) rfl rfl rfl kd_0 rfl wC_X8_raise wI_X8_raise wV_X8_raise wi_X8 wm_L_75 hy_X8_raise (by decide) (Nat.le_of_ble_eq_true rfl) dL_law_573) (fun r44 => ?_)
      refine g_aload_n (pc := 576) C dL_law_576 rfl 2 rfl ?_
      refine g_aload_n (pc := 577) C dL_law_577 rfl 0 rfl ?_
      refine g_iload_n (pc := 578) C dL_law_578 rfl 3 rfl ?_
      refine g_iconst (pc := 579) C dL_law_579 ic_iconst_1 ?_
      refine g_iadd (pc := 580) C dL_law_580 ?_
      refine g_scld (pc := 581) C HX dL_law_581 ?_
      refine g_aload_n (pc := 582) C dL_law_582 rfl 0 rfl ?_
      refine g_iload_n (pc := 583) C dL_law_583 rfl 3 rfl ?_
      refine g_iconst (pc := 584) C dL_law_584 ic_iconst_2 ?_
      refine g_iadd (pc := 585) C dL_law_585 ?_
      refine g_scld (pc := 586) C HX dL_law_586 ?_
      refine g_callW (pc := 587) C (g_runV (stk := [.int r44.1]) C (c_X9_raise F (sc (x3 + (1 : Int32)).toNatClampNeg) (sc (x3 + (2 : Int32)).toNatClampNeg) r44.2) rfl rfl rfl kd_95 rfl wC_X9_raise wI_X9_raise wV_X9_raise wi_X9 wm_L_78 hy_X9_raise (by decide) (Nat.le_of_ble_eq_true rfl) dL_law_587) (fun r45 => ?_)
      refine g_icmp_eq (pc := 590) (tgt := 904) C dL_law_590 (by decide) ?_ ?_
      · refine g_iinc (pc := 904) (j := 3) (lv' := [(3, .int (x3 + (4 : Int32))), (0, .ref b), (1, .ref (xad X 0)), (2, .ref (xad X 95))]) C dL_law_904 rfl (ii_4 _) (by decide) rfl ?_
        refine g_goto (pc := 907) (tgt := 18) C dL_law_907 (by decide) ?_
        refine g_sub (lv' := [(0, .ref b), (1, .ref (xad X 0)), (2, .ref (xad X 95)), (3, .int (x3 + (4 : Int32)))]) [1, 2, 3, 0] rfl ?_
        exact hk18 (x3 + (4 : Int32)) r45.2
      · refine g_iconst (pc := 593) C dL_law_593 ic_iconst_0 ?_
        exact g_none
    refine g_case (pc := 32) (tgt := 595) (ai := 15) C dL_law_32 (by decide) (by decide) (by decide) rfl (by decide) ?_ (fun hc46 => ?_)
    · refine g_aload_n (pc := 595) C dL_law_595 rfl 1 rfl ?_
      refine g_aload_n (pc := 596) C dL_law_596 rfl 0 rfl ?_
      refine g_iload_n (pc := 597) C dL_law_597 rfl 3 rfl ?_
      refine g_iconst (pc := 598) C dL_law_598 ic_iconst_1 ?_
      refine g_iadd (pc := 599) C dL_law_599 ?_
      refine g_scld (pc := 600) C HX dL_law_600 ?_
      refine g_callR (pc := 601) C (g_runV (stk := []) C (c_X8_grow F (sc (x3 + (1 : Int32)).toNatClampNeg) M) rfl rfl rfl kd_0 rfl wC_X8_grow wI_X8_grow wV_X8_grow wi_X8 wm_L_79 hy_X8_grow (by decide) (Nat.le_of_ble_eq_true rfl) dL_law_601) (fun r47 => ?_)
      refine g_aload_n (pc := 604) C dL_law_604 rfl 2 rfl ?_
      refine g_aload_n (pc := 605) C dL_law_605 rfl 0 rfl ?_
      refine g_iload_n (pc := 606) C dL_law_606 rfl 3 rfl ?_
      refine g_iconst (pc := 607) C dL_law_607 ic_iconst_1 ?_
      refine g_iadd (pc := 608) C dL_law_608 ?_
      refine g_scld (pc := 609) C HX dL_law_609 ?_
      refine g_callW (pc := 610) C (g_runV (stk := [.int r47]) C (c_X9_grow F (sc (x3 + (1 : Int32)).toNatClampNeg) M) rfl rfl rfl kd_95 rfl wC_X9_grow wI_X9_grow wV_X9_grow wi_X9 wm_L_82 hy_X9_grow (by decide) (Nat.le_of_ble_eq_true rfl) dL_law_610) (fun r48 => ?_)
      refine g_icmp_eq (pc := 613) (tgt := 904) C dL_law_613 (by decide) ?_ ?_
      · refine g_iinc (pc := 904) (j := 3) (lv' := [(3, .int (x3 + (4 : Int32))), (0, .ref b), (1, .ref (xad X 0)), (2, .ref (xad X 95))]) C dL_law_904 rfl (ii_4 _) (by decide) rfl ?_
        refine g_goto (pc := 907) (tgt := 18) C dL_law_907 (by decide) ?_
        refine g_sub (lv' := [(0, .ref b), (1, .ref (xad X 0)), (2, .ref (xad X 95)), (3, .int (x3 + (4 : Int32)))]) [1, 2, 3, 0] rfl ?_
        exact hk18 (x3 + (4 : Int32)) r48.2
      · refine g_iconst (pc := 616) C dL_law_616 ic_iconst_0 ?_
        exact g_none
    refine g_case (pc := 32) (tgt := 618) (ai := 16) C dL_law_32 (by decide) (by decide) (by decide) rfl (by decide) ?_ (fun hc49 => ?_)
    · refine g_aload_n (pc := 618) C dL_law_618 rfl 1 rfl ?_
      refine g_aload_n (pc := 619) C dL_law_619 rfl 0 rfl ?_
      refine g_iload_n (pc := 620) C dL_law_620 rfl 3 rfl ?_
      refine g_iconst (pc := 621) C dL_law_621 ic_iconst_1 ?_
      refine g_iadd (pc := 622) C dL_law_622 ?_
      refine g_scld (pc := 623) C HX dL_law_623 ?_
      refine g_aload_n (pc := 624) C dL_law_624 rfl 0 rfl ?_
      refine g_iload_n (pc := 625) C dL_law_625 rfl 3 rfl ?_
      refine g_iconst (pc := 626) C dL_law_626 ic_iconst_2 ?_
      refine g_iadd (pc := 627) C dL_law_627 ?_
      refine g_scld (pc := 628) C HX dL_law_628 ?_
      refine g_callR (pc := 629) C (g_runV (stk := []) C (c_X8_wedding F (sc (x3 + (1 : Int32)).toNatClampNeg) (sc (x3 + (2 : Int32)).toNatClampNeg) M) rfl rfl rfl kd_0 rfl wC_X8_wedding wI_X8_wedding wV_X8_wedding wi_X8 wm_L_83 hy_X8_wedding (by decide) (Nat.le_of_ble_eq_true rfl) dL_law_629) (fun r50 => ?_)
      refine g_aload_n (pc := 632) C dL_law_632 rfl 2 rfl ?_
      refine g_aload_n (pc := 633) C dL_law_633 rfl 0 rfl ?_
      refine g_iload_n (pc := 634) C dL_law_634 rfl 3 rfl ?_
      refine g_iconst (pc := 635) C dL_law_635 ic_iconst_1 ?_
      refine g_iadd (pc := 636) C dL_law_636 ?_
      refine g_scld (pc := 637) C HX dL_law_637 ?_
      refine g_aload_n (pc := 638) C dL_law_638 rfl 0 rfl ?_
      refine g_iload_n (pc := 639) C dL_law_639 rfl 3 rfl ?_
      refine g_iconst (pc := 640) C dL_law_640 ic_iconst_2 ?_
      refine g_iadd (pc := 641) C dL_law_641 ?_
      refine g_scld (pc := 642) C HX dL_law_642 ?_
      refine g_callR (pc := 643) C (g_runV (stk := [.int r50]) C (c_X9_wedding F (sc (x3 + (1 : Int32)).toNatClampNeg) (sc (x3 + (2 : Int32)).toNatClampNeg) M) rfl rfl rfl kd_95 rfl wC_X9_wedding wI_X9_wedding wV_X9_wedding wi_X9 wm_L_86 hy_X9_wedding (by decide) (Nat.le_of_ble_eq_true rfl) dL_law_643) (fun r51 => ?_)
      refine g_icmp_eq (pc := 646) (tgt := 904) C dL_law_646 (by decide) ?_ ?_
      · refine g_iinc (pc := 904) (j := 3) (lv' := [(3, .int (x3 + (4 : Int32))), (0, .ref b), (1, .ref (xad X 0)), (2, .ref (xad X 95))]) C dL_law_904 rfl (ii_4 _) (by decide) rfl ?_
        refine g_goto (pc := 907) (tgt := 18) C dL_law_907 (by decide) ?_
        refine g_sub (lv' := [(0, .ref b), (1, .ref (xad X 0)), (2, .ref (xad X 95)), (3, .int (x3 + (4 : Int32)))]) [1, 2, 3, 0] rfl ?_
        exact hk18 (x3 + (4 : Int32)) M
      · refine g_iconst (pc := 649) C dL_law_649 ic_iconst_0 ?_
        exact g_none
    refine g_case (pc := 32) (tgt := 651) (ai := 17) C dL_law_32 (by decide) (by decide) (by decide) rfl (by decide) ?_ (fun hc52 => ?_)
    · refine g_aload_n (pc := 651) C dL_law_651 rfl 1 rfl ?_
      refine g_aload_n (pc := 652) C dL_law_652 rfl 0 rfl ?_
      refine g_iload_n (pc := 653) C dL_law_653 rfl 3 rfl ?_
      refine g_iconst (pc := 654) C dL_law_654 ic_iconst_1 ?_
      refine g_iadd (pc := 655) C dL_law_655 ?_
      refine g_scld (pc := 656) C HX dL_law_656 ?_
      refine g_aload_n (pc := 657) C dL_law_657 rfl 0 rfl ?_
      refine g_iload_n (pc := 658) C dL_law_658 rfl 3 rfl ?_
      refine g_iconst (pc := 659) C dL_law_659 ic_iconst_2 ?_
      refine g_iadd (pc := 660) C dL_law_660 ?_
      refine g_scld (pc := 661) C HX dL_law_661 ?_
      refine g_callW (pc := 662) C (g_runV (stk := []) C (c_X8_see (sc (x3 + (1 : Int32)).toNatClampNeg) (sc (x3 + (2 : Int32)).toNatClampNeg) M) rfl rfl rfl kd_0 rfl wC_X8_see wI_X8_see wV_X8_see wi_X8 wm_L_87 hy_X8_see (by decide) (Nat.le_of_ble_eq_true rfl) dL_law_662) (fun r53 => ?_)
      refine g_aload_n (pc := 665) C dL_law_665 rfl 2 rfl ?_
      refine g_aload_n (pc := 666) C dL_law_666 rfl 0 rfl ?_
      refine g_iload_n (pc := 667) C dL_law_667 rfl 3 rfl ?_
      refine g_iconst (pc := 668) C dL_law_668 ic_iconst_1 ?_
      refine g_iadd (pc := 669) C dL_law_669 ?_
      refine g_scld (pc := 670) C HX dL_law_670 ?_
      refine g_aload_n (pc := 671) C dL_law_671 rfl 0 rfl ?_
      refine g_iload_n (pc := 672) C dL_law_672 rfl 3 rfl ?_
      refine g_iconst (pc := 673) C dL_law_673 ic_iconst_2 ?_
      refine g_iadd (pc := 674) C dL_law_674 ?_
      refine g_scld (pc := 675) C HX dL_law_675 ?_
      refine g_callW (pc := 676) C (g_runV (stk := [.int r53.1]) C (c_X9_see (sc (x3 + (1 : Int32)).toNatClampNeg) (sc (x3 + (2 : Int32)).toNatClampNeg) r53.2) rfl rfl rfl kd_95 rfl wC_X9_see wI_X9_see wV_X9_see wi_X9 wm_L_90 hy_X9_see (by decide) (Nat.le_of_ble_eq_true rfl) dL_law_676) (fun r54 => ?_)
      refine g_icmp_eq (pc := 679) (tgt := 904) C dL_law_679 (by decide) ?_ ?_
      · refine g_iinc (pc := 904) (j := 3) (lv' := [(3, .int (x3 + (4 : Int32))), (0, .ref b), (1, .ref (xad X 0)), (2, .ref (xad X 95))]) C dL_law_904 rfl (ii_4 _) (by decide) rfl ?_
        refine g_goto (pc := 907) (tgt := 18) C dL_law_907 (by decide) ?_
        refine g_sub (lv' := [(0, .ref b), (1, .ref (xad X 0)), (2, .ref (xad X 95)), (3, .int (x3 + (4 : Int32)))]) [1, 2, 3, 0] rfl ?_
        exact hk18 (x3 + (4 : Int32)) r54.2
      · refine g_iconst (pc := 682) C dL_law_682 ic_iconst_0 ?_
        exact g_none
    refine g_case (pc := 32) (tgt := 684) (ai := 18) C dL_law_32 (by decide) (by decide) (by decide) rfl (by decide) ?_ (fun hc55 => ?_)
    · refine g_aload_n (pc := 684) C dL_law_684 rfl 1 rfl ?_
      refine g_aload_n (pc := 685) C dL_law_685 rfl 0 rfl ?_
      refine g_iload_n (pc := 686) C dL_law_686 rfl 3 rfl ?_
      refine g_iconst (pc := 687) C dL_law_687 ic_iconst_1 ?_
      refine g_iadd (pc := 688) C dL_law_688 ?_
      refine g_scld (pc := 689) C HX dL_law_689 ?_
      refine g_aload_n (pc := 690) C dL_law_690 rfl 0 rfl ?_
      refine g_iload_n (pc := 691) C dL_law_691 rfl 3 rfl ?_
      refine g_iconst (pc := 692) C dL_law_692 ic_iconst_2 ?_
      refine g_iadd (pc := 693) C dL_law_693 ?_
      refine g_scld (pc := 694) C HX dL_law_694 ?_
      refine g_callR (pc := 695) C (g_runV (stk := []) C (c_X8_seen F (sc (x3 + (1 : Int32)).toNatClampNeg) (sc (x3 + (2 : Int32)).toNatClampNeg) M) rfl rfl rfl kd_0 rfl wC_X8_seen wI_X8_seen wV_X8_seen wi_X8 wm_L_91 hy_X8_seen (by decide) (Nat.le_of_ble_eq_true rfl) dL_law_695) (fun r56 => ?_)
      refine g_aload_n (pc := 698) C dL_law_698 rfl 2 rfl ?_
      refine g_aload_n (pc := 699) C dL_law_699 rfl 0 rfl ?_
      refine g_iload_n (pc := 700) C dL_law_700 rfl 3 rfl ?_
      refine g_iconst (pc := 701) C dL_law_701 ic_iconst_1 ?_
      refine g_iadd (pc := 702) C dL_law_702 ?_
      refine g_scld (pc := 703) C HX dL_law_703 ?_
      refine g_aload_n (pc := 704) C dL_law_704 rfl 0 rfl ?_
      refine g_iload_n (pc := 705) C dL_law_705 rfl 3 rfl ?_
      refine g_iconst (pc := 706) C dL_law_706 ic_iconst_2 ?_
      refine g_iadd (pc := 707) C dL_law_707 ?_
      refine g_scld (pc := 708) C HX dL_law_708 ?_
      refine g_callR (pc := 709) C (g_runV (stk := [.int r56]) C (c_X9_seen F (sc (x3 + (1 : Int32)).toNatClampNeg) (sc (x3 + (2 : Int32)).toNatClampNeg) M) rfl rfl rfl kd_95 rfl wC_X9_seen wI_X9_seen wV_X9_seen wi_X9 wm_L_94 hy_X9_seen (by decide) (Nat.le_of_ble_eq_true rfl) dL_law_709) (fun r57 => ?_)
      refine g_icmp_eq (pc := 712) (tgt := 904) C dL_law_712 (by decide) ?_ ?_
      · refine g_iinc (pc := 904) (j := 3) (lv' := [(3, .int (x3 + (4 : Int32))), (0, .ref b), (1, .ref (xad X 0)), (2, .ref (xad X 95))]) C dL_law_904 rfl (ii_4 _) (by decide) rfl ?_
        refine g_goto (pc := 907) (tgt := 18) C dL_law_907 (by decide) ?_
        refine g_sub (lv' := [(0, .ref b), (1, .ref (xad X 0)), (2, .ref (xad X 95)), (3, .int (x3 + (4 : Int32)))]) [1, 2, 3, 0] rfl ?_
        exact hk18 (x3 + (4 : Int32)) M
      · refine g_iconst (pc := 715) C dL_law_715 ic_iconst_0 ?_
        exact g_none
    refine g_case (pc := 32) (tgt := 717) (ai := 19) C dL_law_32 (by decide) (by decide) (by decide) rfl (by decide) ?_ (fun hc58 => ?_)
    · refine g_aload_n (pc := 717) C dL_law_717 rfl 1 rfl ?_
      refine g_callR (pc := 718) C (g_runV (stk := []) C (c_X8_strange F M) rfl rfl rfl kd_0 rfl wC_X8_strange wI_X8_strange wV_X8_strange wi_X8 wm_L_95 hy_X8_strange (by decide) (Nat.le_of_ble_eq_true rfl) dL_law_718) (fun r59 => ?_)
      refine g_aload_n (pc := 721) C dL_law_721 rfl 2 rfl ?_
      refine g_callR (pc := 722) C (g_runV (stk := [.int r59]) C (c_X9_strange F M) rfl rfl rfl kd_95 rfl wC_X9_strange wI_X9_strange wV_X9_strange wi_X9 wm_L_98 hy_X9_strange (by decide) (Nat.le_of_ble_eq_true rfl) dL_law_722) (fun r60 => ?_)
      refine g_icmp_eq (pc := 725) (tgt := 904) C dL_law_725 (by decide) ?_ ?_
      · refine g_iinc (pc := 904) (j := 3) (lv' := [(3, .int (x3 + (4 : Int32))), (0, .ref b), (1, .ref (xad X 0)), (2, .ref (xad X 95))]) C dL_law_904 rfl (ii_4 _) (by decide) rfl ?_
        refine g_goto (pc := 907) (tgt := 18) C dL_law_907 (by decide) ?_
        refine g_sub (lv' := [(0, .ref b), (1, .ref (xad X 0)), (2, .ref (xad X 95)), (3, .int (x3 + (4 : Int32)))]) [1, 2, 3, 0] rfl ?_
        exact hk18 (x3 + (4 : Int32)) M
      · refine g_iconst (pc := 728) C dL_law_728 ic_iconst_0 ?_
        exact g_none
    refine g_case (pc := 32) (tgt := 730) (ai := 20) C dL_law_32 (by decide) (by decide) (by decide) rfl (by decide) ?_ (fun hc61 => ?_)
    · refine g_aload_n (pc := 730) C dL_law_730 rfl 1 rfl ?_
      refine g_aload_n (pc := 731) C dL_law_731 rfl 0 rfl ?_
      refine g_iload_n (pc := 732) C dL_law_732 rfl 3 rfl ?_
      refine g_iconst (pc := 733) C dL_law_733 ic_iconst_1 ?_
      refine g_iadd (pc := 734) C dL_law_734 ?_
      refine g_scld (pc := 735) C HX dL_law_735 ?_
      refine g_callW (pc := 736) C (g_runV (stk := []) C (c_X8_day F (sc (x3 + (1 : Int32)).toNatClampNeg) M) rfl rfl rfl kd_0 rfl wC_X8_day wI_X8_day wV_X8_day wi_X8 wm_L_99 hy_X8_day (by decide) (Nat.le_of_ble_eq_true rfl) dL_law_736) (fun r62 => ?_)
      refine g_aload_n (pc := 739) C dL_law_739 rfl 2 rfl ?_
      refine g_aload_n (pc := 740) C dL_law_740 rfl 0 rfl ?_
      refine g_iload_n (pc := 741) C dL_law_741 rfl 3 rfl ?_
      refine g_iconst (pc := 742) C dL_law_742 ic_iconst_1 ?_
      refine g_iadd (pc := 743) C dL_law_743 ?_
      refine g_scld (pc := 744) C HX dL_law_744 ?_
      refine g_callW (pc := 745) C (g_runV (stk := [.int r62.1]) C (c_X9_day F (sc (x3 + (1 : Int32)).toNatClampNeg) r62.2) rfl rfl rfl kd_95 rfl wC_X9_day wI_X9_day wV_X9_day wi_X9 wm_L_102 hy_X9_day (by decide) (Nat.le_of_ble_eq_true rfl) dL_law_745) (fun r63 => ?_)
      refine g_icmp_eq (pc := 748) (tgt := 904) C dL_law_748 (by decide) ?_ ?_
      · refine g_iinc (pc := 904) (j := 3) (lv' := [(3, .int (x3 + (4 : Int32))), (0, .ref b), (1, .ref (xad X 0)), (2, .ref (xad X 95))]) C dL_law_904 rfl (ii_4 _) (by decide) rfl ?_
        refine g_goto (pc := 907) (tgt := 18) C dL_law_907 (by decide) ?_
        refine g_sub (lv' := [(0, .ref b), (1, .ref (xad X 0)), (2, .ref (xad X 95)), (3, .int (x3 + (4 : Int32)))]) [1, 2, 3, 0] rfl ?_
        exact hk18 (x3 + (4 : Int32)) r63.2
      · refine g_iconst (pc := 751) C dL_law_751 ic_iconst_0 ?_
        exact g_none
    refine g_case (pc := 32) (tgt := 753) (ai := 21) C dL_law_32 (by decide) (by decide) (by decide) rfl (by decide) ?_ (fun hc64 => ?_)
    · refine g_aload_n (pc := 753) C dL_law_753 rfl 1 rfl ?_
      refine g_aload_n (pc := 754) C dL_law_754 rfl 0 rfl ?_
      refine g_iload_n (pc := 755) C dL_law_755 rfl 3 rfl ?_
      refine g_iconst (pc := 756) C dL_law_756 ic_iconst_1 ?_
      refine g_iadd (pc := 757) C dL_law_757 ?_
      refine g_scld (pc := 758) C HX dL_law_758 ?_
      refine g_callW (pc := 759) C (g_runV (stk := []) C (c_X8_drift F (sc (x3 + (1 : Int32)).toNatClampNeg) M) rfl rfl rfl kd_0 rfl wC_X8_drift wI_X8_drift wV_X8_drift wi_X8 wm_L_103 hy_X8_drift (by decide) (Nat.le_of_ble_eq_true rfl) dL_law_759) (fun r65 => ?_)
      refine g_aload_n (pc := 762) C dL_law_762 rfl 2 rfl ?_
      refine g_aload_n (pc := 763) C dL_law_763 rfl 0 rfl ?_
      refine g_iload_n (pc := 764) C dL_law_764 rfl 3 rfl ?_
      refine g_iconst (pc := 765) C dL_law_765 ic_iconst_1 ?_
      refine g_iadd (pc := 766) C dL_law_766 ?_
      refine g_scld (pc := 767) C HX dL_law_767 ?_
      refine g_callW (pc := 768) C (g_runV (stk := [.int r65.1]) C (c_X9_drift F (sc (x3 + (1 : Int32)).toNatClampNeg) r65.2) rfl rfl rfl kd_95 rfl wC_X9_drift wI_X9_drift wV_X9_drift wi_X9 wm_L_106 hy_X9_drift (by decide) (Nat.le_of_ble_eq_true rfl) dL_law_768) (fun r66 => ?_)
      refine g_icmp_eq (pc := 771) (tgt := 904) C dL_law_771 (by decide) ?_ ?_
      · refine g_iinc (pc := 904) (j := 3) (lv' := [(3, .int (x3 + (4 : Int32))), (0, .ref b), (1, .ref (xad X 0)), (2, .ref (xad X 95))]) C dL_law_904 rfl (ii_4 _) (by decide) rfl ?_
        refine g_goto (pc := 907) (tgt := 18) C dL_law_907 (by decide) ?_
        refine g_sub (lv' := [(0, .ref b), (1, .ref (xad X 0)), (2, .ref (xad X 95)), (3, .int (x3 + (4 : Int32)))]) [1, 2, 3, 0] rfl ?_
        exact hk18 (x3 + (4 : Int32)) r66.2
      · refine g_iconst (pc := 774) C dL_law_774 ic_iconst_0 ?_
        exact g_none
    refine g_case (pc := 32) (tgt := 776) (ai := 22) C dL_law_32 (by decide) (by decide) (by decide) rfl (by decide) ?_ (fun hc67 => ?_)
    · refine g_aload_n (pc := 776) C dL_law_776 rfl 1 rfl ?_
      refine g_aload_n (pc := 777) C dL_law_777 rfl 0 rfl ?_
      refine g_iload_n (pc := 778) C dL_law_778 rfl 3 rfl ?_
      refine g_iconst (pc := 779) C dL_law_779 ic_iconst_1 ?_
      refine g_iadd (pc := 780) C dL_law_780 ?_
      refine g_scld (pc := 781) C HX dL_law_781 ?_
      refine g_aload_n (pc := 782) C dL_law_782 rfl 0 rfl ?_
      refine g_iload_n (pc := 783) C dL_law_783 rfl 3 rfl ?_
      refine g_iconst (pc := 784) C dL_law_784 ic_iconst_2 ?_
      refine g_iadd (pc := 785) C dL_law_785 ?_
      refine g_scld (pc := 786) C HX dL_law_786 ?_
      refine g_callW (pc := 787) C (g_runV (stk := []) C (c_X8_write (sc (x3 + (1 : Int32)).toNatClampNeg) (sc (x3 + (2 : Int32)).toNatClampNeg) M) rfl rfl rfl kd_0 rfl wC_X8_write wI_X8_write wV_X8_write wi_X8 wm_L_107 hy_X8_write (by decide) (Nat.le_of_ble_eq_true rfl) dL_law_787) (fun r68 => ?_)
      refine g_aload_n (pc := 790) C dL_law_790 rfl 2 rfl ?_
      refine g_aload_n (pc := 791) C dL_law_791 rfl 0 rfl ?_
      refine g_iload_n (pc := 792) C dL_law_792 rfl 3 rfl ?_
      refine g_iconst (pc := 793) C dL_law_793 ic_iconst_1 ?_
      refine g_iadd (pc := 794) C dL_law_794 ?_
      refine g_scld (pc := 795) C HX dL_law_795 ?_
      refine g_aload_n (pc := 796) C dL_law_796 rfl 0 rfl ?_
      refine g_iload_n (pc := 797) C dL_law_797 rfl 3 rfl ?_
      refine g_iconst (pc := 798) C dL_law_798 ic_iconst_2 ?_
      refine g_iadd (pc := 799) C dL_law_799 ?_
      refine g_scld (pc := 800) C HX dL_law_800 ?_
      refine g_callW (pc := 801) C (g_runV (stk := [.int r68.1]) C (c_X9_write (sc (x3 + (1 : Int32)).toNatClampNeg) (sc (x3 + (2 : Int32)).toNatClampNeg) r68.2) rfl rfl rfl kd_95 rfl wC_X9_write wI_X9_write wV_X9_write wi_X9 wm_L_110 hy_X9_write (by decide) (Nat.le_of_ble_eq_true rfl) dL_law_801) (fun r69 => ?_)
      refine g_icmp_eq (pc := 804) (tgt := 904) C dL_law_804 (by decide) ?_ ?_
      · refine g_iinc (pc := 904) (j := 3) (lv' := [(3, .int (x3 + (4 : Int32))), (0, .ref b), (1, .ref (xad X 0)), (2, .ref (xad X 95))]) C dL_law_904 rfl (ii_4 _) (by decide) rfl ?_
        refine g_goto (pc := 907) (tgt := 18) C dL_law_907 (by decide) ?_
        refine g_sub (lv' := [(0, .ref b), (1, .ref (xad X 0)), (2, .ref (xad X 95)), (3, .int (x3 + (4 : Int32)))]) [1, 2, 3, 0] rfl ?_
        exact hk18 (x3 + (4 : Int32)) r69.2
      · refine g_iconst (pc := 807) C dL_law_807 ic_iconst_0 ?_
        exact g_none
    refine g_case (pc := 32) (tgt := 809) (ai := 23) C dL_law_32 (by decide) (by decide) (by decide) rfl (by decide) ?_ (fun hc70 => ?_)
    · refine g_aload_n (pc := 809) C dL_law_809 rfl 1 rfl ?_
      refine g_callW (pc := 810) C (g_runV (stk := []) C (c_X8_tear M) rfl rfl rfl kd_0 rfl wC_X8_tear wI_X8_tear wV_X8_tear wi_X8 wm_L_111 hy_X8_tear (by decide) (Nat.le_of_ble_eq_true rfl) dL_law_810) (fun r71 => ?_)
      refine g_aload_n (pc := 813) C dL_law_813 rfl 2 rfl ?_
      refine g_callW (pc := 814) C (g_runV (stk := [.int r71.1]) C (c_X9_tear r71.2) rfl rfl rfl kd_95 rfl wC_X9_tear wI_X9_tear wV_X9_tear wi_X9 wm_L_114 hy_X9_tear (by decide) (Nat.le_of_ble_eq_true rfl) dL_law_814) (fun r72 => ?_)
      refine g_icmp_eq (pc := 817) (tgt := 904) C dL_law_817 (by decide) ?_ ?_
      · refine g_iinc (pc := 904) (j := 3) (lv' := [(3, .int (x3 + (4 : Int32))), (0, .ref b), (1, .ref (xad X 0)), (2, .ref (xad X 95))]) C dL_law_904 rfl (ii_4 _) (by decide) rfl ?_
        refine g_goto (pc := 907) (tgt := 18) C dL_law_907 (by decide) ?_
        refine g_sub (lv' := [(0, .ref b), (1, .ref (xad X 0)), (2, .ref (xad X 95)), (3, .int (x3 + (4 : Int32)))]) [1, 2, 3, 0] rfl ?_
        exact hk18 (x3 + (4 : Int32)) r72.2
      · refine g_iconst (pc := 820) C dL_law_820 ic_iconst_0 ?_
        exact g_none
    refine g_case (pc := 32) (tgt := 822) (ai := 24) C dL_law_32 (by decide) (by decide) (by decide) rfl (by decide) ?_ (fun hc73 => ?_)
    · refine g_aload_n (pc := 822) C dL_law_822 rfl 1 rfl ?_
      refine g_callR (pc := 823) C (g_runV (stk := []) C (c_X8_judge F M) rfl rfl rfl kd_0 rfl wC_X8_judge wI_X8_judge wV_X8_judge wi_X8 wm_L_115 hy_X8_judge (by decide) (Nat.le_of_ble_eq_true rfl) dL_law_823) (fun r74 => ?_)
      refine g_aload_n (pc := 826) C dL_law_826 rfl 2 rfl ?_
      refine g_callR (pc := 827) C (g_runV (stk := [.int r74]) C (c_X9_judge F M) rfl rfl rfl kd_95 rfl wC_X9_judge wI_X9_judge wV_X9_judge wi_X9 wm_L_118 hy_X9_judge (by decide) (Nat.le_of_ble_eq_true rfl) dL_law_827) (fun r75 => ?_)
      refine g_icmp_eq (pc := 830) (tgt := 904) C dL_law_830 (by decide) ?_ ?_
      · refine g_iinc (pc := 904) (j := 3) (lv' := [(3, .int (x3 + (4 : Int32))), (0, .ref b), (1, .ref (xad X 0)), (2, .ref (xad X 95))]) C dL_law_904 rfl (ii_4 _) (by decide) rfl ?_
        refine g_goto (pc := 907) (tgt := 18) C dL_law_907 (by decide) ?_
        refine g_sub (lv' := [(0, .ref b), (1, .ref (xad X 0)), (2, .ref (xad X 95)), (3, .int (x3 + (4 : Int32)))]) [1, 2, 3, 0] rfl ?_
        exact hk18 (x3 + (4 : Int32)) M
      · refine g_iconst (pc := 833) C dL_law_833 ic_iconst_0 ?_
        exact g_none
    refine g_case (pc := 32) (tgt := 835) (ai := 25) C dL_law_32 (by decide) (by decide) (by decide) rfl (by decide) ?_ (fun hc76 => ?_)
    · refine g_aload_n (pc := 835) C dL_law_835 rfl 1 rfl ?_
      refine g_aload_n (pc := 836) C dL_law_836 rfl 0 rfl ?_
      refine g_iload_n (pc := 837) C dL_law_837 rfl 3 rfl ?_
      refine g_iconst (pc := 838) C dL_law_838 ic_iconst_1 ?_
      refine g_iadd (pc := 839) C dL_law_839 ?_
      refine g_scld (pc := 840) C HX dL_law_840 ?_
      refine g_callW (pc := 841) C (g_runV (stk := []) C (c_X8_seed (sc (x3 + (1 : Int32)).toNatClampNeg) M) rfl rfl rfl kd_0 rfl wC_X8_seed wI_X8_seed wV_X8_seed wi_X8 wm_L_119 hy_X8_seed (by decide) (Nat.le_of_ble_eq_true rfl) dL_law_841) (fun r77 => ?_)
      refine g_aload_n (pc := 844) C dL_law_844 rfl 2 rfl ?_
      refine g_aload_n (pc := 845) C dL_law_845 rfl 0 rfl ?_
      refine g_iload_n (pc := 846) C dL_law_846 rfl 3 rfl ?_
      refine g_iconst (pc := 847) C dL_law_847 ic_iconst_1 ?_
      refine g_iadd (pc := 848) C dL_law_848 ?_
      refine g_scld (pc := 849) C HX dL_law_849 ?_
      refine g_callW (pc := 850) C (g_runV (stk := [.int r77.1]) C (c_X9_seed (sc (x3 + (1 : Int32)).toNatClampNeg) r77.2) rfl rfl rfl kd_95 rfl wC_X9_seed wI_X9_seed wV_X9_seed wi_X9 wm_L_122 hy_X9_seed (by decide) (Nat.le_of_ble_eq_true rfl) dL_law_850) (fun r78 => ?_)
      refine g_icmp_eq (pc := 853) (tgt := 904) C dL_law_853 (by decide) ?_ ?_
      · refine g_iinc (pc := 904) (j := 3) (lv' := [(3, .int (x3 + (4 : Int32))), (0, .ref b), (1, .ref (xad X 0)), (2, .ref (xad X 95))]) C dL_law_904 rfl (ii_4 _) (by decide) rfl ?_
        refine g_goto (pc := 907) (tgt := 18) C dL_law_907 (by decide) ?_
        refine g_sub (lv' := [(0, .ref b), (1, .ref (xad X 0)), (2, .ref (xad X 95)), (3, .int (x3 + (4 : Int32)))]) [1, 2, 3, 0] rfl ?_
        exact hk18 (x3 + (4 : Int32)) r78.2
      · refine g_iconst (pc := 856) C dL_law_856 ic_iconst_0 ?_
        exact g_none
    refine g_case (pc := 32) (tgt := 858) (ai := 26) C dL_law_32 (by decide) (by decide) (by decide) rfl (by decide) ?_ (fun hc79 => ?_)
    · refine g_aload_n (pc := 858) C dL_law_858 rfl 1 rfl ?_
      refine g_aload_n (pc := 859) C dL_law_859 rfl 0 rfl ?_
      refine g_iload_n (pc := 860) C dL_law_860 rfl 3 rfl ?_
      refine g_iconst (pc := 861) C dL_law_861 ic_iconst_1 ?_
      refine g_iadd (pc := 862) C dL_law_862 ?_
      refine g_scld (pc := 863) C HX dL_law_863 ?_
      refine g_callW (pc := 864) C (g_runV (stk := []) C (c_X8_keep F (sc (x3 + (1 : Int32)).toNatClampNeg) M) rfl rfl rfl kd_0 rfl wC_X8_keep wI_X8_keep wV_X8_keep wi_X8 wm_L_123 hy_X8_keep (by decide) (Nat.le_of_ble_eq_true rfl) dL_law_864) (fun r80 => ?_)
      refine g_aload_n (pc := 867) C dL_law_867 rfl 2 rfl ?_
      refine g_aload_n (pc := 868) C dL_law_868 rfl 0 rfl ?_
      refine g_iload_n (pc := 869) C dL_law_869 rfl 3 rfl ?_
      refine g_iconst (pc := 870) C dL_law_870 ic_iconst_1 ?_
      refine g_iadd (pc := 871) C dL_law_871 ?_
      refine g_scld (pc := 872) C HX dL_law_872 ?_
      refine g_callW (pc := 873) C (g_runV (stk := [.int r80.1]) C (c_X9_keep F (sc (x3 + (1 : Int32)).toNatClampNeg) r80.2) rfl rfl rfl kd_95 rfl wC_X9_keep wI_X9_keep wV_X9_keep wi_X9 wm_L_126 hy_X9_keep (by decide) (Nat.le_of_ble_eq_true rfl) dL_law_873) (fun r81 => ?_)
      refine g_icmp_eq (pc := 876) (tgt := 904) C dL_law_876 (by decide) ?_ ?_
      · refine g_iinc (pc := 904) (j := 3) (lv' := [(3, .int (x3 + (4 : Int32))), (0, .ref b), (1, .ref (xad X 0)), (2, .ref (xad X 95))]) C dL_law_904 rfl (ii_4 _) (by decide) rfl ?_
        refine g_goto (pc := 907) (tgt := 18) C dL_law_907 (by decide) ?_
        refine g_sub (lv' := [(0, .ref b), (1, .ref (xad X 0)), (2, .ref (xad X 95)), (3, .int (x3 + (4 : Int32)))]) [1, 2, 3, 0] rfl ?_
        exact hk18 (x3 + (4 : Int32)) r81.2
      · refine g_iconst (pc := 879) C dL_law_879 ic_iconst_0 ?_
        exact g_none
    refine g_case (pc := 32) (tgt := 881) (ai := 27) C dL_law_32 (by decide) (by decide) (by decide) rfl (by decide) ?_ (fun hc82 => ?_)
    · refine g_aload_n (pc := 881) C dL_law_881 rfl 1 rfl ?_
      refine g_aload_n (pc := 882) C dL_law_882 rfl 0 rfl ?_
      refine g_iload_n (pc := 883) C dL_law_883 rfl 3 rfl ?_
      refine g_iconst (pc := 884) C dL_law_884 ic_iconst_1 ?_
      refine g_iadd (pc := 885) C dL_law_885 ?_
      refine g_scld (pc := 886) C HX dL_law_886 ?_
      refine g_callW (pc := 887) C (g_runV (stk := []) C (c_X8_goBack F (sc (x3 + (1 : Int32)).toNatClampNeg) M) rfl rfl rfl kd_0 rfl wC_X8_goBack wI_X8_goBack wV_X8_goBack wi_X8 wm_L_127 hy_X8_goBack (by decide) (Nat.le_of_ble_eq_true rfl) dL_law_887) (fun r83 => ?_)
      refine g_aload_n (pc := 890) C dL_law_890 rfl 2 rfl ?_
      refine g_aload_n (pc := 891) C dL_law_891 rfl 0 rfl ?_
      refine g_iload_n (pc := 892) C dL_law_892 rfl 3 rfl ?_
      refine g_iconst (pc := 893) C dL_law_893 ic_iconst_1 ?_
      refine g_iadd (pc := 894) C dL_law_894 ?_
      refine g_scld (pc := 895) C HX dL_law_895 ?_
      refine g_callW (pc := 896) C (g_runV (stk := [.int r83.1]) C (c_X9_goBack F (sc (x3 + (1 : Int32)).toNatClampNeg) r83.2) rfl rfl rfl kd_95 rfl wC_X9_goBack wI_X9_goBack wV_X9_goBack wi_X9 wm_L_130 hy_X9_goBack (by decide) (Nat.le_of_ble_eq_true rfl) dL_law_896) (fun r84 => ?_)
      refine g_icmp_eq (pc := 899) (tgt := 904) C dL_law_899 (by decide) ?_ ?_
      · refine g_iinc (pc := 904) (j := 3) (lv' := [(3, .int (x3 + (4 : Int32))), (0, .ref b), (1, .ref (xad X 0)), (2, .ref (xad X 95))]) C dL_law_904 rfl (ii_4 _) (by decide) rfl ?_
        refine g_goto (pc := 907) (tgt := 18) C dL_law_907 (by decide) ?_
        refine g_sub (lv' := [(0, .ref b), (1, .ref (xad X 0)), (2, .ref (xad X 95)), (3, .int (x3 + (4 : Int32)))]) [1, 2, 3, 0] rfl ?_
        exact hk18 (x3 + (4 : Int32)) r84.2
      · refine g_iconst (pc := 902) C dL_law_902 ic_iconst_0 ?_
        exact g_none
    refine g_dflt (pc := 32) (tgt := 904) C dL_law_32 (by omega) (by decide) ?_
    refine g_iinc (pc := 904) (j := 3) (lv' := [(3, .int (x3 + (4 : Int32))), (0, .ref b), (1, .ref (xad X 0)), (2, .ref (xad X 95))]) C dL_law_904 rfl (ii_4 _) (by decide) rfl ?_
    refine g_goto (pc := 907) (tgt := 18) C dL_law_907 (by decide) ?_
    refine g_sub (lv' := [(0, .ref b), (1, .ref (xad X 0)), (2, .ref (xad X 95)), (3, .int (x3 + (4 : Int32)))]) [1, 2, 3, 0] rfl ?_
    exact hk18 (x3 + (4 : Int32)) M

theorem g_L_law_h18 {X : gX} (C : gC X cL_law RL 4 ret 9 211) (F : Nat) (L : Nat) (sc : Nat → Int32) {Q : Int32 → State → Prop} {b : Nat} (HX : gSc X b L sc) (hret : ∀ (M : gM) (lv : List (Nat × Value)), G X Q 4 M lv [.int 1] 911 (some 1)) : ∀ (n : Nat) (x3 : Int32) (M : gM), G X Q 4 M [(0, .ref b), (1, .ref (xad X 0)), (2, .ref (xad X 95)), (3, .int x3)] [] 18 (f_L_law_h18 F L sc n x3 M) := by
  intro n
  induction n with
  | zero =>
    intro x3 M r hr
    have hr2 : (none : Option Int32) = some r := hr
    cases hr2
  | succ n ih =>
    intro x3 M
    exact g_L_law_h18_b C F L sc HX hret _ ih x3 M
