/-! X3_readTown -/
def f_X3_readTown_h28_b (F : Nat) (k28 : Int32 → gM → Option (Int32 × gM)) (x1 : Int32) (M : gM) : Option (Int32 × gM) :=
  if (400 : Int32) ≤ x1 then
    some (M 25 4, M)
  else
    if (M 1 1) ≤ (M 25 2) then
      some (M 25 4, M)
    else
      if (M 25 4) = 0 then
        (f_X3_readWord F M).bind fun r6 =>
        (f_X6_stands F 0 (r6 25 3) (r6 25 2) r6).bind fun r7 =>
        if r7 = 0 then
          (f_X6_stands F 1 (r6 25 3) (r6 25 2) r6).bind fun r8 =>
          if r8 = 0 then
            (f_X6_stands F 2 (r6 25 3) (r6 25 2) r6).bind fun r9 =>
            if r9 = 0 then
              (f_X3_fail (1 : Int32) (r6 25 3) r6).bind fun r10 =>
              (f_X3_skipBlanks F r10).bind fun r11 =>
              k28 (x1 + (1 : Int32)) r11
            else
              (f_X3_readScene F r6).bind fun r12 =>
              (f_X3_skipBlanks F r12).bind fun r13 =>
              k28 (x1 + (1 : Int32)) r13
          else
            (f_X3_readClash F r6).bind fun r14 =>
            (f_X3_skipBlanks F r14).bind fun r15 =>
            k28 (x1 + (1 : Int32)) r15
        else
          (f_X3_readPart F r6).bind fun r16 =>
          (f_X3_skipBlanks F r16).bind fun r17 =>
          k28 (x1 + (1 : Int32)) r17
      else
        some (M 25 4, M)
def f_X3_readTown_h28 (F : Nat) : Nat → Int32 → gM → Option (Int32 × gM)
  | 0, _, _ => none
  | n + 1, x1, M => f_X3_readTown_h28_b F (f_X3_readTown_h28 F n) x1 M
theorem f_X3_readTown_h28_spec (F : Nat)  (I : Int32 → gM → Prop) (μ : Int32 → gM → Nat) (φ : Int32 → gM → Option (Int32 × gM))
    (h : ∀ (self : Int32 → gM → Option (Int32 × gM)) (x1 : Int32) (M : gM), I x1 M → (∀ (x1' : Int32) (M' : gM), I x1' M' → μ x1' M' < μ x1 M → self x1' M' = φ x1' M') → f_X3_readTown_h28_b F self x1 M = φ x1 M) :
    ∀ (n : Nat) (x1 : Int32) (M : gM), I x1 M → μ x1 M < n → f_X3_readTown_h28 F n x1 M = φ x1 M := by
  intro n
  induction n with
  | zero => intro x1 M _ hm; exact absurd hm (Nat.not_lt_zero _)
  | succ n ih => intro x1 M hI hm; exact h _ x1 M hI (fun x1' M' hI2 hlt => ih x1' M' hI2 (by omega))
def f_X3_readTown (F : Nat) (M : gM) : Option (Int32 × gM) :=
  (f_X7_clear 14 M).bind fun r1 =>
  ltM (gst r1 25 2 (0 : Int32)) fun M2 =>
  ltM (gst M2 25 4 (0 : Int32)) fun M3 =>
  ltM (gst M3 25 5 (-1 : Int32)) fun M4 =>
  (f_X3_skipBlanks F M4).bind fun r5 =>
  f_X3_readTown_h28 F F (0 : Int32) r5
/-! X4_add -/
def f_X4_add (a0 : Int32) (a1 : Int32) (M : gM) : Option (Int32 × gM) :=
  if (M 88 4) < (20 : Int32) then
    ck (ib (M 88 4) 20) <|
    ltM (gst M 89 (M 88 4).toNatClampNeg a0) fun M1 =>
    ck (ib (M1 88 4) 20) <|
    ltM (gst M1 90 (M1 88 4).toNatClampNeg a1) fun M2 =>
    ltM (gst M2 88 4 ((M2 88 4) + (1 : Int32))) fun M3 =>
    some ((1 : Int32), M3)
  else
    some ((0 : Int32), M)
/-! X4_mayBe -/
def f_X4_mayBe (a0 : Int32) (a1 : Int32) (a2 : Int32) (M : gM) : Option Int32 :=
  (f_X2_partsOf a0 M).bind fun r1 =>
  if (r1 &&& (a2 ^^^ (-1 : Int32))) = 0 then
    (f_X2_widthOf a0 M).bind fun r2 =>
    ck (ib a1 20) <|
    if r2 = (M 90 a1.toNatClampNeg) then
      some (1 : Int32)
    else
      some (0 : Int32)
  else
    some (0 : Int32)
/-! X4_mayBeWorn -/
def f_X4_mayBeWorn_h19_b (F : Nat) (a0 : Int32) (M : gM) (k19 : Int32 → Int32 → Int32 → Option Int32) (x2 : Int32) (x3 : Int32) (x4 : Int32) : Option Int32 :=
  if (M 39 5) ≤ x4 then
    some x3
  else
    (f_X4_mayBe x4 a0 x2 M).bind fun r2 =>
    if r2 = 0 then
      k19 x2 x3 (x4 + (1 : Int32))
    else
      (f_X2_partsOf x4 M).bind fun r3 =>
      lt_ (x3 ||| r3) fun v4 =>
      k19 x2 v4 (x4 + (1 : Int32))
def f_X4_mayBeWorn_h19 (F : Nat) (a0 : Int32) (M : gM) : Nat → Int32 → Int32 → Int32 → Option Int32
  | 0, _, _, _ => none
  | n + 1, x2, x3, x4 => f_X4_mayBeWorn_h19_b F a0 M (f_X4_mayBeWorn_h19 F a0 M n) x2 x3 x4
theorem f_X4_mayBeWorn_h19_spec (F : Nat) (a0 : Int32) (M : gM)  (I : Int32 → Int32 → Int32 → Prop) (μ : Int32 → Int32 → Int32 → Nat) (φ : Int32 → Int32 → Int32 → Option Int32)
    (h : ∀ (self : Int32 → Int32 → Int32 → Option Int32) (x2 : Int32) (x3 : Int32) (x4 : Int32), I x2 x3 x4 → (∀ (x2' : Int32) (x3' : Int32) (x4' : Int32), I x2' x3' x4' → μ x2' x3' x4' < μ x2 x3 x4 → self x2' x3' x4' = φ x2' x3' x4') → f_X4_mayBeWorn_h19_b F a0 M self x2 x3 x4 = φ x2 x3 x4) :
    ∀ (n : Nat) (x2 : Int32) (x3 : Int32) (x4 : Int32), I x2 x3 x4 → μ x2 x3 x4 < n → f_X4_mayBeWorn_h19 F a0 M n x2 x3 x4 = φ x2 x3 x4 := by
  intro n
  induction n with
  | zero => intro x2 x3 x4 _ hm; exact absurd hm (Nat.not_lt_zero _)
  | succ n ih => intro x2 x3 x4 hI hm; exact h _ x2 x3 x4 hI (fun x2' x3' x4' hI2 hlt => ih x2' x3' x4' hI2 (by omega))
def f_X4_mayBeWorn (F : Nat) (a0 : Int32) (M : gM) : Option Int32 :=
  ck (ib a0 20) <|
  (f_X7_freeIn F 3 (M 89 a0.toNatClampNeg) M).bind fun r1 =>
  f_X4_mayBeWorn_h19 F a0 M F r1 (0 : Int32) (0 : Int32)
/-! X4_firstStrange -/
def f_X4_firstStrange_h2_b (F : Nat) (M : gM) (k2 : Int32 → Option Int32) (x1 : Int32) : Option Int32 :=
  if (M 88 4) ≤ x1 then
    some (-1 : Int32)
  else
    (f_X4_mayBeWorn F x1 M).bind fun r1 =>
    if r1 = 0 then
      some x1
    else
      k2 (x1 + (1 : Int32))
def f_X4_firstStrange_h2 (F : Nat) (M : gM) : Nat → Int32 → Option Int32
  | 0, _ => none
  | n + 1, x1 => f_X4_firstStrange_h2_b F M (f_X4_firstStrange_h2 F M n) x1
theorem f_X4_firstStrange_h2_spec (F : Nat) (M : gM)  (I : Int32 → Prop) (μ : Int32 → Nat) (φ : Int32 → Option Int32)
    (h : ∀ (self : Int32 → Option Int32) (x1 : Int32), I x1 → (∀ (x1' : Int32), I x1' → μ x1' < μ x1 → self x1' = φ x1') → f_X4_firstStrange_h2_b F M self x1 = φ x1) :
    ∀ (n : Nat) (x1 : Int32), I x1 → μ x1 < n → f_X4_firstStrange_h2 F M n x1 = φ x1 := by
  intro n
  induction n with
  | zero => intro x1 _ hm; exact absurd hm (Nat.not_lt_zero _)
  | succ n ih => intro x1 hI hm; exact h _ x1 hI (fun x1' hI2 hlt => ih x1' hI2 (by omega))
def f_X4_firstStrange (F : Nat) (M : gM) : Option Int32 :=
  f_X4_firstStrange_h2 F M F (0 : Int32)
/-! X4_surelyWorn -/
def f_X4_surelyWorn_h23_b (F : Nat) (a0 : Int32) (M : gM) (k23 : Int32 → Int32 → Int32 → Option Int32) (x2 : Int32) (x3 : Int32) (x4 : Int32) : Option Int32 :=
  if (M 39 5) ≤ x4 then
    some x3
  else
    (f_X4_mayBe x4 a0 x2 M).bind fun r3 =>
    if r3 = 0 then
      k23 x2 x3 (x4 + (1 : Int32))
    else
      (f_X2_partsOf x4 M).bind fun r4 =>
      lt_ (x3 &&& r4) fun v5 =>
      k23 x2 v5 (x4 + (1 : Int32))
def f_X4_surelyWorn_h23 (F : Nat) (a0 : Int32) (M : gM) : Nat → Int32 → Int32 → Int32 → Option Int32
  | 0, _, _, _ => none
  | n + 1, x2, x3, x4 => f_X4_surelyWorn_h23_b F a0 M (f_X4_surelyWorn_h23 F a0 M n) x2 x3 x4
theorem f_X4_surelyWorn_h23_spec (F : Nat) (a0 : Int32) (M : gM)  (I : Int32 → Int32 → Int32 → Prop) (μ : Int32 → Int32 → Int32 → Nat) (φ : Int32 → Int32 → Int32 → Option Int32)
    (h : ∀ (self : Int32 → Int32 → Int32 → Option Int32) (x2 : Int32) (x3 : Int32) (x4 : Int32), I x2 x3 x4 → (∀ (x2' : Int32) (x3' : Int32) (x4' : Int32), I x2' x3' x4' → μ x2' x3' x4' < μ x2 x3 x4 → self x2' x3' x4' = φ x2' x3' x4') → f_X4_surelyWorn_h23_b F a0 M self x2 x3 x4 = φ x2 x3 x4) :
    ∀ (n : Nat) (x2 : Int32) (x3 : Int32) (x4 : Int32), I x2 x3 x4 → μ x2 x3 x4 < n → f_X4_surelyWorn_h23 F a0 M n x2 x3 x4 = φ x2 x3 x4 := by
  intro n
  induction n with
  | zero => intro x2 x3 x4 _ hm; exact absurd hm (Nat.not_lt_zero _)
  | succ n ih => intro x2 x3 x4 hI hm; exact h _ x2 x3 x4 hI (fun x2' x3' x4' hI2 hlt => ih x2' x3' x4' hI2 (by omega))
def f_X4_surelyWorn (F : Nat) (a0 : Int32) (M : gM) : Option Int32 :=
  ck (ib a0 20) <|
  (f_X7_freeIn F 3 (M 89 a0.toNatClampNeg) M).bind fun r1 =>
  (f_X4_mayBeWorn F a0 M).bind fun r2 =>
  f_X4_surelyWorn_h23 F a0 M F r1 r2 (0 : Int32)
/-! X5_beginIn -/
def f_X5_beginIn_h24_b (F : Nat) (t : Nat) (a0 : Nat) (k24 : Int32 → gM → Option gM) (x2 : Int32) (M : gM) : Option gM :=
  if (10 : Int32) ≤ x2 then
    ltM (gst M t 3 (0 : Int32)) fun M3 =>
    ltM (gst M3 t 4 (0 : Int32)) fun M4 =>
    some M4
  else
    ck (ib x2 10) <|
    ltM (gst M (rf t 2) x2.toNatClampNeg (0 : Int32)) fun M5 =>
    k24 (x2 + (1 : Int32)) M5
def f_X5_beginIn_h24 (F : Nat) (t : Nat) (a0 : Nat) : Nat → Int32 → gM → Option gM
  | 0, _, _ => none
  | n + 1, x2, M => f_X5_beginIn_h24_b F t a0 (f_X5_beginIn_h24 F t a0 n) x2 M
theorem f_X5_beginIn_h24_spec (F : Nat) (t : Nat) (a0 : Nat)  (I : Int32 → gM → Prop) (μ : Int32 → gM → Nat) (φ : Int32 → gM → Option gM)
    (h : ∀ (self : Int32 → gM → Option gM) (x2 : Int32) (M : gM), I x2 M → (∀ (x2' : Int32) (M' : gM), I x2' M' → μ x2' M' < μ x2 M → self x2' M' = φ x2' M') → f_X5_beginIn_h24_b F t a0 self x2 M = φ x2 M) :
    ∀ (n : Nat) (x2 : Int32) (M : gM), I x2 M → μ x2 M < n → f_X5_beginIn_h24 F t a0 n x2 M = φ x2 M := by
  intro n
  induction n with
  | zero => intro x2 M _ hm; exact absurd hm (Nat.not_lt_zero _)
  | succ n ih => intro x2 M hI hm; exact h _ x2 M hI (fun x2' M' hI2 hlt => ih x2' M' hI2 (by omega))
def f_X5_beginIn (F : Nat) (t : Nat) (a0 : Nat) (M : gM) : Option gM :=
  (f_X8_copyRow F (rf a0 2) 10 (rf t 0) 10 M).bind fun r1 =>
  (f_X8_copyRow F (rf a0 3) 10 (rf t 1) 10 r1).bind fun r2 =>
  f_X5_beginIn_h24 F t a0 F (0 : Int32) r2
/-! X5_copyFrom -/
def f_X5_copyFrom (F : Nat) (t : Nat) (a0 : Nat) (M : gM) : Option gM :=
  (f_X8_copyRow F (rf a0 0) 10 (rf t 0) 10 M).bind fun r1 =>
  (f_X8_copyRow F (rf a0 1) 10 (rf t 1) 10 r1).bind fun r2 =>
  (f_X8_copyRow F (rf a0 2) 10 (rf t 2) 10 r2).bind fun r3 =>
  ltM (gst r3 t 3 (r3 a0 3)) fun M4 =>
  ltM (gst M4 t 4 (M4 a0 4)) fun M5 =>
  ltM (gst M5 t 5 (M5 a0 5)) fun M6 =>
  ltM (gst M6 t 6 (M6 a0 6)) fun M7 =>
  some M7
/-! X5_drawOfFour -/
def f_X5_drawOfFour (t : Nat) (M : gM) : Option (Int32 × gM) :=
  ltM (gst M t 6 ((((((M t 6).toInt64) * (1103515245 : Int64)) + (12345 : Int64)) &&& (2147483647 : Int64)).toInt32)) fun M1 =>
  some (((M1 t 6) / (65536 : Int32)) - ((M1 t 6) / (65536 : Int32)) / (4 : Int32) * (4 : Int32), M1)
/-! X5_drawPrices -/
def f_X5_drawPrices_h9_b (F : Nat) (t : Nat) (a0 : Int32) (k9 : Int32 → Int32 → gM → Option gM) (x2 : Int32) (x3 : Int32) (M : gM) : Option gM :=
  if x2 ≤ x3 then
    some M
  else
    (f_X5_drawOfFour t M).bind fun r2 =>
    lt_ r2.1 fun v3 =>
    if v3 = 0 then
      ck (ib x3 10) <|
      ck (ib x3 10) <|
      ltM (gst r2.2 (rf t 1) x3.toNatClampNeg (if ((r2.2 (rf t 1) x3.toNatClampNeg) + (1 : Int32)) < (99 : Int32) then ((r2.2 (rf t 1) x3.toNatClampNeg) + (1 : Int32)) else (99 : Int32))) fun M5 =>
      k9 x2 (x3 + (1 : Int32)) M5
    else
      if v3 = (1 : Int32) then
        ck (ib x3 10) <|
        ck (ib x3 10) <|
        ltM (gst r2.2 (rf t 1) x3.toNatClampNeg (if (0 : Int32) < ((r2.2 (rf t 1) x3.toNatClampNeg) - (1 : Int32)) then ((r2.2 (rf t 1) x3.toNatClampNeg) - (1 : Int32)) else (0 : Int32))) fun M4 =>
        k9 x2 (x3 + (1 : Int32)) M4
      else
        k9 x2 (x3 + (1 : Int32)) r2.2
def f_X5_drawPrices_h9 (F : Nat) (t : Nat) (a0 : Int32) : Nat → Int32 → Int32 → gM → Option gM
  | 0, _, _, _ => none
  | n + 1, x2, x3, M => f_X5_drawPrices_h9_b F t a0 (f_X5_drawPrices_h9 F t a0 n) x2 x3 M
theorem f_X5_drawPrices_h9_spec (F : Nat) (t : Nat) (a0 : Int32)  (I : Int32 → Int32 → gM → Prop) (μ : Int32 → Int32 → gM → Nat) (φ : Int32 → Int32 → gM → Option gM)
    (h : ∀ (self : Int32 → Int32 → gM → Option gM) (x2 : Int32) (x3 : Int32) (M : gM), I x2 x3 M → (∀ (x2' : Int32) (x3' : Int32) (M' : gM), I x2' x3' M' → μ x2' x3' M' < μ x2 x3 M → self x2' x3' M' = φ x2' x3' M') → f_X5_drawPrices_h9_b F t a0 self x2 x3 M = φ x2 x3 M) :
    ∀ (n : Nat) (x2 : Int32) (x3 : Int32) (M : gM), I x2 x3 M → μ x2 x3 M < n → f_X5_drawPrices_h9 F t a0 n x2 x3 M = φ x2 x3 M := by
  intro n
  induction n with
  | zero => intro x2 x3 M _ hm; exact absurd hm (Nat.not_lt_zero _)
  | succ n ih => intro x2 x3 M hI hm; exact h _ x2 x3 M hI (fun x2' x3' M' hI2 hlt => ih x2' x3' M' hI2 (by omega))
def f_X5_drawPrices (F : Nat) (t : Nat) (a0 : Int32) (M : gM) : Option gM :=
  lt_ (if (10 : Int32) < a0 then (10 : Int32) else a0) fun v1 =>
  f_X5_drawPrices_h9 F t a0 F v1 (0 : Int32) M
/-! X5_raisePrices -/
def f_X5_raisePrices_h12_b (F : Nat) (t : Nat) (a0 : Int32) (a1 : Int32) (a2 : Nat) (na2 : Nat) (k12 : Int32 → Int32 → gM → Option gM) (x4 : Int32) (x5 : Int32) (M : gM) : Option gM :=
  if x4 ≤ x5 then
    some M
  else
    (f_X8_has a0 x5 M).bind fun r2 =>
    if r2 = 0 then
      ck (ib x5 10) <|
      ck (ib x5 na2) <|
      ltM (gst M a2 x5.toNatClampNeg (M (rf t 1) x5.toNatClampNeg)) fun M3 =>
      k12 x4 (x5 + (1 : Int32)) M3
    else
      ck (ib x5 10) <|
      ck (ib x5 na2) <|
      ltM (gst M a2 x5.toNatClampNeg (if ((M (rf t 1) x5.toNatClampNeg) + a1) < (99 : Int32) then ((M (rf t 1) x5.toNatClampNeg) + a1) else (99 : Int32))) fun M4 =>
      k12 x4 (x5 + (1 : Int32)) M4
def f_X5_raisePrices_h12 (F : Nat) (t : Nat) (a0 : Int32) (a1 : Int32) (a2 : Nat) (na2 : Nat) : Nat → Int32 → Int32 → gM → Option gM
  | 0, _, _, _ => none
  | n + 1, x4, x5, M => f_X5_raisePrices_h12_b F t a0 a1 a2 na2 (f_X5_raisePrices_h12 F t a0 a1 a2 na2 n) x4 x5 M
theorem f_X5_raisePrices_h12_spec (F : Nat) (t : Nat) (a0 : Int32) (a1 : Int32) (a2 : Nat) (na2 : Nat)  (I : Int32 → Int32 → gM → Prop) (μ : Int32 → Int32 → gM → Nat) (φ : Int32 → Int32 → gM → Option gM)
    (h : ∀ (self : Int32 → Int32 → gM → Option gM) (x4 : Int32) (x5 : Int32) (M : gM), I x4 x5 M → (∀ (x4' : Int32) (x5' : Int32) (M' : gM), I x4' x5' M' → μ x4' x5' M' < μ x4 x5 M → self x4' x5' M' = φ x4' x5' M') → f_X5_raisePrices_h12_b F t a0 a1 a2 na2 self x4 x5 M = φ x4 x5 M) :
    ∀ (n : Nat) (x4 : Int32) (x5 : Int32) (M : gM), I x4 x5 M → μ x4 x5 M < n → f_X5_raisePrices_h12 F t a0 a1 a2 na2 n x4 x5 M = φ x4 x5 M := by
  intro n
  induction n with
  | zero => intro x4 x5 M _ hm; exact absurd hm (Nat.not_lt_zero _)
  | succ n ih => intro x4 x5 M hI hm; exact h _ x4 x5 M hI (fun x4' x5' M' hI2 hlt => ih x4' x5' M' hI2 (by omega))
def f_X5_raisePrices (F : Nat) (t : Nat) (a0 : Int32) (a1 : Int32) (a2 : Nat) (na2 : Nat) (M : gM) : Option gM :=
  lt_ (if (10 : Int32) < (Int32.ofNat na2) then (10 : Int32) else (Int32.ofNat na2)) fun v1 =>
  f_X5_raisePrices_h12 F t a0 a1 a2 na2 F v1 (0 : Int32) M
/-! X5_wearHour -/
def f_X5_wearHour_h2_b (F : Nat) (t : Nat) (a0 : Int32) (k2 : Int32 → gM → Option gM) (x2 : Int32) (M : gM) : Option gM :=
  if (10 : Int32) ≤ x2 then
    some M
  else
    (f_X8_has a0 x2 M).bind fun r1 =>
    if r1 = 0 then
      k2 (x2 + (1 : Int32)) M
    else
      ck (ib x2 10) <|
      ck (ib x2 10) <|
      ltM (gst M (rf t 2) x2.toNatClampNeg ((M (rf t 2) x2.toNatClampNeg) + (1 : Int32))) fun M2 =>
      k2 (x2 + (1 : Int32)) M2
def f_X5_wearHour_h2 (F : Nat) (t : Nat) (a0 : Int32) : Nat → Int32 → gM → Option gM
  | 0, _, _ => none
  | n + 1, x2, M => f_X5_wearHour_h2_b F t a0 (f_X5_wearHour_h2 F t a0 n) x2 M
theorem f_X5_wearHour_h2_spec (F : Nat) (t : Nat) (a0 : Int32)  (I : Int32 → gM → Prop) (μ : Int32 → gM → Nat) (φ : Int32 → gM → Option gM)
    (h : ∀ (self : Int32 → gM → Option gM) (x2 : Int32) (M : gM), I x2 M → (∀ (x2' : Int32) (M' : gM), I x2' M' → μ x2' M' < μ x2 M → self x2' M' = φ x2' M') → f_X5_wearHour_h2_b F t a0 self x2 M = φ x2 M) :
    ∀ (n : Nat) (x2 : Int32) (M : gM), I x2 M → μ x2 M < n → f_X5_wearHour_h2 F t a0 n x2 M = φ x2 M := by
  intro n
  induction n with
  | zero => intro x2 M _ hm; exact absurd hm (Nat.not_lt_zero _)
  | succ n ih => intro x2 M hI hm; exact h _ x2 M hI (fun x2' M' hI2 hlt => ih x2' M' hI2 (by omega))
def f_X5_wearHour (F : Nat) (t : Nat) (a0 : Int32) (M : gM) : Option gM :=
  f_X5_wearHour_h2 F t a0 F (0 : Int32) M
/-! X5_wearOut -/
def f_X5_wearOut_h8_b (F : Nat) (t : Nat) (k2 : Int32 → gM → Option gM) (k8 : Int32 → gM → Option gM) (x1 : Int32) (M : gM) : Option gM :=
  ck (ib x1 10) <|
  if (M (rf t 2) x1.toNatClampNeg) < (10 : Int32) then
    k2 (x1 + (1 : Int32)) M
  else
    ck (ib x1 10) <|
    ck (ib x1 10) <|
    ltM (gst M (rf t 2) x1.toNatClampNeg ((M (rf t 2) x1.toNatClampNeg) - (10 : Int32))) fun M1 =>
    ck (ib x1 10) <|
    ck (ib x1 10) <|
    ltM (gst M1 (rf t 0) x1.toNatClampNeg (if (0 : Int32) < ((M1 (rf t 0) x1.toNatClampNeg) - (1 : Int32)) then ((M1 (rf t 0) x1.toNatClampNeg) - (1 : Int32)) else (0 : Int32))) fun M2 =>
    k8 x1 M2
def f_X5_wearOut_h8 (F : Nat) (t : Nat) (k2 : Int32 → gM → Option gM) : Nat → Int32 → gM → Option gM
  | 0, _, _ => none
  | n + 1, x1, M => f_X5_wearOut_h8_b F t k2 (f_X5_wearOut_h8 F t k2 n) x1 M
theorem f_X5_wearOut_h8_spec (F : Nat) (t : Nat) (k2 : Int32 → gM → Option gM) (I : Int32 → gM → Prop) (μ : Int32 → gM → Nat) (φ : Int32 → gM → Option gM)
    (h : ∀ (self : Int32 → gM → Option gM) (x1 : Int32) (M : gM), I x1 M → (∀ (x1' : Int32) (M' : gM), I x1' M' → μ x1' M' < μ x1 M → self x1' M' = φ x1' M') → f_X5_wearOut_h8_b F t k2 self x1 M = φ x1 M) :
    ∀ (n : Nat) (x1 : Int32) (M : gM), I x1 M → μ x1 M < n → f_X5_wearOut_h8 F t k2 n x1 M = φ x1 M := by
  intro n
  induction n with
  | zero => intro x1 M _ hm; exact absurd hm (Nat.not_lt_zero _)
  | succ n ih => intro x1 M hI hm; exact h _ x1 M hI (fun x1' M' hI2 hlt => ih x1' M' hI2 (by omega))
def f_X5_wearOut_h2_b (F : Nat) (t : Nat) (k2 : Int32 → gM → Option gM) (x1 : Int32) (M : gM) : Option gM :=
  if (10 : Int32) ≤ x1 then
    some M
  else
    f_X5_wearOut_h8 F t k2 F x1 M
def f_X5_wearOut_h2 (F : Nat) (t : Nat) : Nat → Int32 → gM → Option gM
  | 0, _, _ => none
  | n + 1, x1, M => f_X5_wearOut_h2_b F t (f_X5_wearOut_h2 F t n) x1 M
theorem f_X5_wearOut_h2_spec (F : Nat) (t : Nat)  (I : Int32 → gM → Prop) (μ : Int32 → gM → Nat) (φ : Int32 → gM → Option gM)
    (h : ∀ (self : Int32 → gM → Option gM) (x1 : Int32) (M : gM), I x1 M → (∀ (x1' : Int32) (M' : gM), I x1' M' → μ x1' M' < μ x1 M → self x1' M' = φ x1' M') → f_X5_wearOut_h2_b F t self x1 M = φ x1 M) :
    ∀ (n : Nat) (x1 : Int32) (M : gM), I x1 M → μ x1 M < n → f_X5_wearOut_h2 F t n x1 M = φ x1 M := by
  intro n
  induction n with
  | zero => intro x1 M _ hm; exact absurd hm (Nat.not_lt_zero _)
  | succ n ih => intro x1 M hI hm; exact h _ x1 M hI (fun x1' M' hI2 hlt => ih x1' M' hI2 (by omega))
def f_X5_wearOut (F : Nat) (t : Nat) (M : gM) : Option gM :=
  f_X5_wearOut_h2 F t F (0 : Int32) M
/-! X6_add -/
def f_X6_add (a0 : Int32) (M : gM) : Option gM :=
  if (400 : Int32) ≤ (M 1 1) then
    some M
  else
    ck (ib (M 1 1) 400) <|
    ltM (gst M 2 (M 1 1).toNatClampNeg a0) fun M1 =>
    ltM (gst M1 1 1 ((M1 1 1) + (1 : Int32))) fun M2 =>
    some M2
/-! X7_copyFrom -/
def f_X7_copyFrom (F : Nat) (t : Nat) (a0 : Nat) (M : gM) : Option gM :=
  (f_X8_copyRow F (rf a0 0) 10 (rf t 0) 10 M).bind fun r1 =>
  (f_X8_copyRow F (rf a0 1) 10 (rf t 1) 10 r1).bind fun r2 =>
  (f_X8_copyRow F (rf a0 2) 10 (rf t 2) 10 r2).bind fun r3 =>
  (f_X8_copyRow F (rf a0 3) 10 (rf t 3) 10 r3).bind fun r4 =>
  (f_X8_copyRow F (rf a0 4) 10 (rf t 4) 10 r4).bind fun r5 =>
  (f_X8_copyRow F (rf a0 5) 10 (rf t 5) 10 r5).bind fun r6 =>
  (f_X8_copyRow F (rf a0 6) 10 (rf t 6) 10 r6).bind fun r7 =>
  (f_X8_copyRow F (rf a0 7) 8 (rf t 7) 8 r7).bind fun r8 =>
  (f_X8_copyRow F (rf a0 8) 8 (rf t 8) 8 r8).bind fun r9 =>
  (f_X8_copyRow F (rf a0 9) 8 (rf t 9) 8 r9).bind fun r10 =>
  ltM (gst r10 t 10 (r10 a0 10)) fun M11 =>
  ltM (gst M11 t 11 (M11 a0 11)) fun M12 =>
  ltM (gst M12 t 12 (M12 a0 12)) fun M13 =>
  some M13
/-! X7_ownedBy -/
def f_X7_ownedBy_h4_b (F : Nat) (t : Nat) (a0 : Int32) (M : gM) (k4 : Int32 → Int32 → Option Int32) (x2 : Int32) (x3 : Int32) : Option Int32 :=
  if (M t 10) ≤ x3 then
    some x2
  else
    ck (ib x3 10) <|
    if (M (rf t 1) x3.toNatClampNeg) = a0 then
      lt_ (x2 ||| ((1 : Int32) <<< (x3 &&& 31))) fun v1 =>
      k4 v1 (x3 + (1 : Int32))
    else
      k4 x2 (x3 + (1 : Int32))
def f_X7_ownedBy_h4 (F : Nat) (t : Nat) (a0 : Int32) (M : gM) : Nat → Int32 → Int32 → Option Int32
  | 0, _, _ => none
  | n + 1, x2, x3 => f_X7_ownedBy_h4_b F t a0 M (f_X7_ownedBy_h4 F t a0 M n) x2 x3
theorem f_X7_ownedBy_h4_spec (F : Nat) (t : Nat) (a0 : Int32) (M : gM)  (I : Int32 → Int32 → Prop) (μ : Int32 → Int32 → Nat) (φ : Int32 → Int32 → Option Int32)
    (h : ∀ (self : Int32 → Int32 → Option Int32) (x2 : Int32) (x3 : Int32), I x2 x3 → (∀ (x2' : Int32) (x3' : Int32), I x2' x3' → μ x2' x3' < μ x2 x3 → self x2' x3' = φ x2' x3') → f_X7_ownedBy_h4_b F t a0 M self x2 x3 = φ x2 x3) :
    ∀ (n : Nat) (x2 : Int32) (x3 : Int32), I x2 x3 → μ x2 x3 < n → f_X7_ownedBy_h4 F t a0 M n x2 x3 = φ x2 x3 := by
  intro n
  induction n with
  | zero => intro x2 x3 _ hm; exact absurd hm (Nat.not_lt_zero _)
  | succ n ih => intro x2 x3 hI hm; exact h _ x2 x3 hI (fun x2' x3' hI2 hlt => ih x2' x3' hI2 (by omega))
def f_X7_ownedBy (F : Nat) (t : Nat) (a0 : Int32) (M : gM) : Option Int32 :=
  f_X7_ownedBy_h4 F t a0 M F (0 : Int32) (0 : Int32)
/-! X8_cheapest -/
def f_X8_cheapest (F : Nat) (a0 : Int32) (a1 : Int32) (M : gM) : Option Int32 :=
  (f_X7_hasScene 3 a0 M).bind fun r1 =>
  if r1 = 0 then
    some (-1000000001 : Int32)
  else
    if a1 < 0 then
      some (-1000000002 : Int32)
    else
      if a1 ≤ (1 : Int32) then
        (f_X2_cheapestFor F a0 M).bind fun r2 =>
        if r2 = (-1 : Int32) then
          some (-1 : Int32)
        else
          if a1 = 0 then
            (f_X2_partsOf r2 M).bind fun r4 =>
            some r4
          else
            (f_X2_priceOf r2 M).bind fun r3 =>
            some r3
      else
        some (-1000000002 : Int32)
/-! X8_dressBest -/
def f_X8_dressBest (F : Nat) (a0 : Int32) (M : gM) : Option gM :=
  (f_X1_gather F a0 M).bind fun r1 =>
  (f_X1_choose F 28 10 (r1 26 5) r1).bind fun r2 =>
  some r2
/-! X8_passDay -/
def f_X8_passDay_h33_b (F : Nat) (k33 : Int32 → gM → Option (Int32 × gM)) (x1 : Int32) (M : gM) : Option (Int32 × gM) :=
  if (12 : Int32) ≤ x1 then
    (f_X5_wearOut F 26 M).bind fun r3 =>
    ltM (gst r3 26 3 (if ((r3 26 3) + (r3 43 8)) < (999999999 : Int32) then ((r3 26 3) + (r3 43 8)) else (999999999 : Int32))) fun M4 =>
    some (M4 43 8, M4)
  else
    ck (ib x1 12) <|
    (f_X5_wearHour F 26 (M 86 x1.toNatClampNeg) M).bind fun r5 =>
    k33 (x1 + (1 : Int32)) r5
def f_X8_passDay_h33 (F : Nat) : Nat → Int32 → gM → Option (Int32 × gM)
  | 0, _, _ => none
  | n + 1, x1, M => f_X8_passDay_h33_b F (f_X8_passDay_h33 F n) x1 M
theorem f_X8_passDay_h33_spec (F : Nat)  (I : Int32 → gM → Prop) (μ : Int32 → gM → Nat) (φ : Int32 → gM → Option (Int32 × gM))
    (h : ∀ (self : Int32 → gM → Option (Int32 × gM)) (x1 : Int32) (M : gM), I x1 M → (∀ (x1' : Int32) (M' : gM), I x1' M' → μ x1' M' < μ x1 M → self x1' M' = φ x1' M') → f_X8_passDay_h33_b F self x1 M = φ x1 M) :
    ∀ (n : Nat) (x1 : Int32) (M : gM), I x1 M → μ x1 M < n → f_X8_passDay_h33 F n x1 M = φ x1 M := by
  intro n
  induction n with
  | zero => intro x1 M _ hm; exact absurd hm (Nat.not_lt_zero _)
  | succ n ih => intro x1 M hI hm; exact h _ x1 M hI (fun x1' M' hI2 hlt => ih x1' M' hI2 (by omega))
def f_X8_passDay (F : Nat) (M : gM) : Option (Int32 × gM) :=
  (f_X8_dressBest F (0 : Int32) M).bind fun r1 =>
  ltM (gst r1 26 4 ((r1 26 4) + (1 : Int32))) fun M2 =>
  if (M2 43 8) = (-1 : Int32) then
    some ((0 : Int32), M2)
  else
    f_X8_passDay_h33 F F (0 : Int32) M2
/-! X8_day -/
def f_X8_day_h18_b (F : Nat) (a0 : Int32) (k18 : Int32 → Int32 → gM → Option (Int32 × gM)) (x2 : Int32) (x3 : Int32) (M : gM) : Option (Int32 × gM) :=
  if a0 ≤ x3 then
    some (x2, M)
  else
    (f_X8_passDay F M).bind fun r1 =>
    lt_ (x2 + r1.1) fun v2 =>
    k18 v2 (x3 + (1 : Int32)) r1.2
def f_X8_day_h18 (F : Nat) (a0 : Int32) : Nat → Int32 → Int32 → gM → Option (Int32 × gM)
  | 0, _, _, _ => none
  | n + 1, x2, x3, M => f_X8_day_h18_b F a0 (f_X8_day_h18 F a0 n) x2 x3 M
theorem f_X8_day_h18_spec (F : Nat) (a0 : Int32)  (I : Int32 → Int32 → gM → Prop) (μ : Int32 → Int32 → gM → Nat) (φ : Int32 → Int32 → gM → Option (Int32 × gM))
    (h : ∀ (self : Int32 → Int32 → gM → Option (Int32 × gM)) (x2 : Int32) (x3 : Int32) (M : gM), I x2 x3 M → (∀ (x2' : Int32) (x3' : Int32) (M' : gM), I x2' x3' M' → μ x2' x3' M' < μ x2 x3 M → self x2' x3' M' = φ x2' x3' M') → f_X8_day_h18_b F a0 self x2 x3 M = φ x2 x3 M) :
    ∀ (n : Nat) (x2 : Int32) (x3 : Int32) (M : gM), I x2 x3 M → μ x2 x3 M < n → f_X8_day_h18 F a0 n x2 x3 M = φ x2 x3 M := by
  intro n
  induction n with
  | zero => intro x2 x3 M _ hm; exact absurd hm (Nat.not_lt_zero _)
  | succ n ih => intro x2 x3 M hI hm; exact h _ x2 x3 M hI (fun x2' x3' M' hI2 hlt => ih x2' x3' M' hI2 (by omega))
def f_X8_day (F : Nat) (a0 : Int32) (M : gM) : Option (Int32 × gM) :=
  if a0 < (1 : Int32) then
    some ((-1000000002 : Int32), M)
  else
    if a0 ≤ (9 : Int32) then
      f_X8_day_h18 F a0 F (0 : Int32) (0 : Int32) M
    else
      some ((-1000000002 : Int32), M)
/-! X8_dressing -/
def f_X8_dressing_b19 (F : Nat) (a0 : Int32) (M : gM) : Option (Int32 × gM) :=
  (f_X8_dressBest F (0 : Int32) M).bind fun r1 =>
  if a0 = (-1 : Int32) then
    some (r1 43 8, r1)
  else
    if (r1 43 8) = (-1 : Int32) then
      some (r1 43 8, r1)
    else
      ck (ib a0 8) <|
      (f_X2_partsOf (r1 87 a0.toNatClampNeg) r1).bind fun r2 =>
      some (r2, r1)
def f_X8_dressing (F : Nat) (a0 : Int32) (M : gM) : Option (Int32 × gM) :=
  if a0 = (-1 : Int32) then
    f_X8_dressing_b19 F a0 M
  else
    (f_X7_hasScene 3 a0 M).bind fun r3 =>
    if r3 = 0 then
      some ((-1000000001 : Int32), M)
    else
      f_X8_dressing_b19 F a0 M
/-! X8_drift -/
def f_X8_drift_h18_b (F : Nat) (a0 : Int32) (k18 : Int32 → Int32 → gM → Option (Int32 × gM)) (x2 : Int32) (x3 : Int32) (M : gM) : Option (Int32 × gM) :=
  if a0 ≤ x3 then
    some (x2, M)
  else
    (f_X5_drawPrices F 26 (M 3 10) M).bind fun r1 =>
    (f_X8_passDay F r1).bind fun r2 =>
    lt_ (x2 + r2.1) fun v3 =>
    k18 v3 (x3 + (1 : Int32)) r2.2
def f_X8_drift_h18 (F : Nat) (a0 : Int32) : Nat → Int32 → Int32 → gM → Option (Int32 × gM)
  | 0, _, _, _ => none
  | n + 1, x2, x3, M => f_X8_drift_h18_b F a0 (f_X8_drift_h18 F a0 n) x2 x3 M
theorem f_X8_drift_h18_spec (F : Nat) (a0 : Int32)  (I : Int32 → Int32 → gM → Prop) (μ : Int32 → Int32 → gM → Nat) (φ : Int32 → Int32 → gM → Option (Int32 × gM))
    (h : ∀ (self : Int32 → Int32 → gM → Option (Int32 × gM)) (x2 : Int32) (x3 : Int32) (M : gM), I x2 x3 M → (∀ (x2' : Int32) (x3' : Int32) (M' : gM), I x2' x3' M' → μ x2' x3' M' < μ x2 x3 M → self x2' x3' M' = φ x2' x3' M') → f_X8_drift_h18_b F a0 self x2 x3 M = φ x2 x3 M) :
    ∀ (n : Nat) (x2 : Int32) (x3 : Int32) (M : gM), I x2 x3 M → μ x2 x3 M < n → f_X8_drift_h18 F a0 n x2 x3 M = φ x2 x3 M := by
  intro n
  induction n with
  | zero => intro x2 x3 M _ hm; exact absurd hm (Nat.not_lt_zero _)
  | succ n ih => intro x2 x3 M hI hm; exact h _ x2 x3 M hI (fun x2' x3' M' hI2 hlt => ih x2' x3' M' hI2 (by omega))
def f_X8_drift (F : Nat) (a0 : Int32) (M : gM) : Option (Int32 × gM) :=
  if a0 < (1 : Int32) then
    some ((-1000000002 : Int32), M)
  else
    if a0 ≤ (9 : Int32) then
      f_X8_drift_h18 F a0 F (0 : Int32) (0 : Int32) M
    else
      some ((-1000000002 : Int32), M)
/-! X8_fault -/
def f_X8_fault (M : gM) : Option Int32 :=
  some (M 0 13)
/-! X8_feed -/
def f_X8_feed_h37_b (F : Nat) (a0 : Int32) (a1 : Int64) (k37 : Int32 → gM → Option (Int32 × gM)) (x4 : Int32) (M : gM) : Option (Int32 × gM) :=
  if x4 < 0 then
    some (M 1 1, M)
  else
    (f_X6_add ((((a1.toUInt64 >>> (((8 : Int32) * x4).toInt64.toUInt64 &&& Int64.toUInt64 63)).toInt64).toInt32) &&& (255 : Int32)) M).bind fun r2 =>
    k37 (x4 + (-1 : Int32)) r2
def f_X8_feed_h37 (F : Nat) (a0 : Int32) (a1 : Int64) : Nat → Int32 → gM → Option (Int32 × gM)
  | 0, _, _ => none
  | n + 1, x4, M => f_X8_feed_h37_b F a0 a1 (f_X8_feed_h37 F a0 a1 n) x4 M
theorem f_X8_feed_h37_spec (F : Nat) (a0 : Int32) (a1 : Int64)  (I : Int32 → gM → Prop) (μ : Int32 → gM → Nat) (φ : Int32 → gM → Option (Int32 × gM))
    (h : ∀ (self : Int32 → gM → Option (Int32 × gM)) (x4 : Int32) (M : gM), I x4 M → (∀ (x4' : Int32) (M' : gM), I x4' M' → μ x4' M' < μ x4 M → self x4' M' = φ x4' M') → f_X8_feed_h37_b F a0 a1 self x4 M = φ x4 M) :
    ∀ (n : Nat) (x4 : Int32) (M : gM), I x4 M → μ x4 M < n → f_X8_feed_h37 F a0 a1 n x4 M = φ x4 M := by
  intro n
  induction n with
  | zero => intro x4 M _ hm; exact absurd hm (Nat.not_lt_zero _)
  | succ n ih => intro x4 M hI hm; exact h _ x4 M hI (fun x4' M' hI2 hlt => ih x4' M' hI2 (by omega))
def f_X8_feed (F : Nat) (a0 : Int32) (a1 : Int64) (M : gM) : Option (Int32 × gM) :=
  if a0 < (1 : Int32) then
    some ((-1000000002 : Int32), M)
  else
    if a0 ≤ (8 : Int32) then
      if ((M 1 1) + a0) ≤ (400 : Int32) then
        lt_ (a0 - (1 : Int32)) fun v1 =>
        f_X8_feed_h37 F a0 a1 F v1 M
      else
        some ((-1000000004 : Int32), M)
    else
      some ((-1000000002 : Int32), M)
/-! X8_imageAt -/
def f_X8_imageAt (a0 : Int32) (M : gM) : Option Nat :=
  if a0 = 0 then
    some 30
  else
    some 34
/-! X8_goBack -/
def f_X8_goBack (F : Nat) (a0 : Int32) (M : gM) : Option (Int32 × gM) :=
  if a0 < 0 then
    some ((-1000000001 : Int32), M)
  else
    if a0 < (2 : Int32) then
      ck (ib a0 2) <|
      if (M 38 a0.toNatClampNeg) = 0 then
        some ((-1000000003 : Int32), M)
      else
        (f_X8_imageAt a0 M).bind fun r1 =>
        ckh (decide (kd r1 = gKo 5)) <|
        (f_X5_copyFrom F 26 r1 M).bind fun r3 =>
        some ((1 : Int32), r3)
    else
      some ((-1000000001 : Int32), M)
/-! X8_grow -/
def f_X8_grow_h37_b (F : Nat) (a0 : Int32) (M : gM) (k22 : Int32 → Int32 → Int32 → Int32 → Option Int32) (k37 : Int32 → Int32 → Int32 → Int32 → Int32 → Option Int32) (x2 : Int32) (x3 : Int32) (x4 : Int32) (x5 : Int32) (x6 : Int32) : Option Int32 :=
  if (9 : Int32) < x6 then
    k22 x2 x3 x4 (x5 + (1 : Int32))
  else
    (f_X2_widthsIf F x5 x6 M).bind fun r1 =>
    (f_J6_bitCount_0f7a4 r1 M).bind fun r2 =>
    if r2 ≤ x4 then
      k37 x2 x3 x4 x5 (x6 + (1 : Int32))
    else
      k37 x5 x6 r2 x5 (x6 + (1 : Int32))
def f_X8_grow_h37 (F : Nat) (a0 : Int32) (M : gM) (k22 : Int32 → Int32 → Int32 → Int32 → Option Int32) : Nat → Int32 → Int32 → Int32 → Int32 → Int32 → Option Int32
  | 0, _, _, _, _, _ => none
  | n + 1, x2, x3, x4, x5, x6 => f_X8_grow_h37_b F a0 M k22 (f_X8_grow_h37 F a0 M k22 n) x2 x3 x4 x5 x6
theorem f_X8_grow_h37_spec (F : Nat) (a0 : Int32) (M : gM) (k22 : Int32 → Int32 → Int32 → Int32 → Option Int32) (I : Int32 → Int32 → Int32 → Int32 → Int32 → Prop) (μ : Int32 → Int32 → Int32 → Int32 → Int32 → Nat) (φ : Int32 → Int32 → Int32 → Int32 → Int32 → Option Int32)
    (h : ∀ (self : Int32 → Int32 → Int32 → Int32 → Int32 → Option Int32) (x2 : Int32) (x3 : Int32) (x4 : Int32) (x5 : Int32) (x6 : Int32), I x2 x3 x4 x5 x6 → (∀ (x2' : Int32) (x3' : Int32) (x4' : Int32) (x5' : Int32) (x6' : Int32), I x2' x3' x4' x5' x6' → μ x2' x3' x4' x5' x6' < μ x2 x3 x4 x5 x6 → self x2' x3' x4' x5' x6' = φ x2' x3' x4' x5' x6') → f_X8_grow_h37_b F a0 M k22 self x2 x3 x4 x5 x6 = φ x2 x3 x4 x5 x6) :
    ∀ (n : Nat) (x2 : Int32) (x3 : Int32) (x4 : Int32) (x5 : Int32) (x6 : Int32), I x2 x3 x4 x5 x6 → μ x2 x3 x4 x5 x6 < n → f_X8_grow_h37 F a0 M k22 n x2 x3 x4 x5 x6 = φ x2 x3 x4 x5 x6 := by
  intro n
  induction n with
  | zero => intro x2 x3 x4 x5 x6 _ hm; exact absurd hm (Nat.not_lt_zero _)
  | succ n ih => intro x2 x3 x4 x5 x6 hI hm; exact h _ x2 x3 x4 x5 x6 hI (fun x2' x3' x4' x5' x6' hI2 hlt => ih x2' x3' x4' x5' x6' hI2 (by omega))
def f_X8_grow_h22_b (F : Nat) (a0 : Int32) (M : gM) (k22 : Int32 → Int32 → Int32 → Int32 → Option Int32) (x2 : Int32) (x3 : Int32) (x4 : Int32) (x5 : Int32) : Option Int32 :=
  if (M 3 10) ≤ x5 then
    if a0 = 0 then
      some x2
    else
      if a0 = (1 : Int32) then
        some x3
      else
        some x4
  else
    f_X8_grow_h37 F a0 M k22 F x2 x3 x4 x5 (0 : Int32)
def f_X8_grow_h22 (F : Nat) (a0 : Int32) (M : gM) : Nat → Int32 → Int32 → Int32 → Int32 → Option Int32
  | 0, _, _, _, _ => none
  | n + 1, x2, x3, x4, x5 => f_X8_grow_h22_b F a0 M (f_X8_grow_h22 F a0 M n) x2 x3 x4 x5
theorem f_X8_grow_h22_spec (F : Nat) (a0 : Int32) (M : gM)  (I : Int32 → Int32 → Int32 → Int32 → Prop) (μ : Int32 → Int32 → Int32 → Int32 → Nat) (φ : Int32 → Int32 → Int32 → Int32 → Option Int32)
    (h : ∀ (self : Int32 → Int32 → Int32 → Int32 → Option Int32) (x2 : Int32) (x3 : Int32) (x4 : Int32) (x5 : Int32), I x2 x3 x4 x5 → (∀ (x2' : Int32) (x3' : Int32) (x4' : Int32) (x5' : Int32), I x2' x3' x4' x5' → μ x2' x3' x4' x5' < μ x2 x3 x4 x5 → self x2' x3' x4' x5' = φ x2' x3' x4' x5') → f_X8_grow_h22_b F a0 M self x2 x3 x4 x5 = φ x2 x3 x4 x5) :
    ∀ (n : Nat) (x2 : Int32) (x3 : Int32) (x4 : Int32) (x5 : Int32), I x2 x3 x4 x5 → μ x2 x3 x4 x5 < n → f_X8_grow_h22 F a0 M n x2 x3 x4 x5 = φ x2 x3 x4 x5 := by
  intro n
  induction n with
  | zero => intro x2 x3 x4 x5 _ hm; exact absurd hm (Nat.not_lt_zero _)
  | succ n ih => intro x2 x3 x4 x5 hI hm; exact h _ x2 x3 x4 x5 hI (fun x2' x3' x4' x5' hI2 hlt => ih x2' x3' x4' x5' hI2 (by omega))
def f_X8_grow (F : Nat) (a0 : Int32) (M : gM) : Option Int32 :=
  if a0 < 0 then
    some (-1000000002 : Int32)
  else
    if a0 ≤ (2 : Int32) then
      f_X8_grow_h22 F a0 M F (-1 : Int32) (-1 : Int32) (-1 : Int32) (0 : Int32)
    else
      some (-1000000002 : Int32)
/-! X8_isHour -/
def f_X8_isHour (a0 : Int32) (M : gM) : Option Int32 :=
  if a0 < 0 then
    some (0 : Int32)
  else
    if (12 : Int32) ≤ a0 then
      some (0 : Int32)
    else
      some (1 : Int32)
/-! X8_isLandlord -/
def f_X8_isLandlord (a0 : Int32) (M : gM) : Option Int32 :=
  if a0 < 0 then
    some (0 : Int32)
  else
    if (4 : Int32) ≤ a0 then
      some (0 : Int32)
    else
      some (1 : Int32)
/-! X8_judge -/
def f_X8_judge (F : Nat) (M : gM) : Option Int32 :=
  (f_X0_firstWrong F (M 26 5) M).bind fun r1 =>
  some r1
/-! X8_keep -/
def f_X8_keep (F : Nat) (a0 : Int32) (M : gM) : Option (Int32 × gM) :=
  if a0 < 0 then
    some ((-1000000001 : Int32), M)
  else
    if a0 < (2 : Int32) then
      (f_X8_imageAt a0 M).bind fun r1 =>
      ckh (decide (kd r1 = gKo 5)) <|
      (f_X5_copyFrom F r1 26 M).bind fun r3 =>
      ck (ib a0 2) <|
      ltM (gst r3 38 a0.toNatClampNeg ((1 : Int32) &&& 1)) fun M4 =>
      some ((1 : Int32), M4)
    else
      some ((-1000000001 : Int32), M)
/-! X8_law -/
def f_X8_law (a0 : Int32) (M : gM) : Option (Int32 × gM) :=
  if a0 < 0 then
    some ((-1000000002 : Int32), M)
  else
    if a0 ≤ (1 : Int32) then
      lt_ (M 26 5) fun v1 =>
      ltM (gst M 26 5 a0) fun M2 =>
      some (v1, M2)
    else
      some ((-1000000002 : Int32), M)
/-! X8_look -/
def f_X8_look (a0 : Int32) (a1 : Int32) (M : gM) : Option Int32 :=
  if a1 < 0 then
    some (-1000000002 : Int32)
  else
    if a1 ≤ (2 : Int32) then
      if a0 < 0 then
        some (-1 : Int32)
      else
        if a0 < (M 39 5) then
          if a1 = 0 then
            (f_X2_partsOf a0 M).bind fun r3 =>
            some r3
          else
            if a1 = (1 : Int32) then
              (f_X2_widthOf a0 M).bind fun r2 =>
              some r2
            else
              (f_X2_priceOf a0 M).bind fun r1 =>
              some r1
        else
          some (-1 : Int32)
    else
      some (-1000000002 : Int32)
/-! X8_part -/
def f_X8_part (a0 : Int32) (a1 : Int32) (M : gM) : Option Int32 :=
  (f_X7_hasPart 3 a0 M).bind fun r1 =>
  if r1 = 0 then
    some (-1000000001 : Int32)
  else
    if a1 = (0 : Int32) then
      ck (ib a0 10) <|
      some (M 4 a0.toNatClampNeg)
    else
    if a1 = (1 : Int32) then
      ck (ib a0 10) <|
      some (M 5 a0.toNatClampNeg)
    else
    if a1 = (2 : Int32) then
      ck (ib a0 10) <|
      some (M 27 a0.toNatClampNeg)
    else
    if a1 = (3 : Int32) then
      ck (ib a0 10) <|
      some (M 28 a0.toNatClampNeg)
    else
    if a1 = (4 : Int32) then
      ck (ib a0 10) <|
      some (M 8 a0.toNatClampNeg)
    else
    if a1 = (5 : Int32) then
      ck (ib a0 10) <|
      some (M 9 a0.toNatClampNeg)
    else
    if a1 = (6 : Int32) then
      ck (ib a0 10) <|
      some (M 10 a0.toNatClampNeg)
    else
    if a1 = (7 : Int32) then
      ck (ib a0 10) <|
      some (M 29 a0.toNatClampNeg)
    else
    some (-1000000002 : Int32)
/-! X8_price -/
def f_X8_price (a0 : Int32) (a1 : Int32) (M : gM) : Option (Int32 × gM) :=
  (f_X7_hasPart 3 a0 M).bind fun r1 =>
  if r1 = 0 then
    some ((-1000000001 : Int32), M)
  else
    if a1 < 0 then
      some ((-1000000002 : Int32), M)
    else
      if a1 ≤ (99 : Int32) then
        ck (ib a0 10) <|
        lt_ (M 28 a0.toNatClampNeg) fun v2 =>
        ck (ib a0 10) <|
        ltM (gst M 28 a0.toNatClampNeg a1) fun M3 =>
        some (v2, M3)
      else
        some ((-1000000002 : Int32), M)
/-! X8_raise -/
def f_X8_raise_h45_b (F : Nat) (a0 : Int32) (a1 : Int32) (k45 : Int32 → Int32 → Int32 → Int32 → gM → Option (Int32 × gM)) (x3 : Int32) (x4 : Int32) (x5 : Int32) (x6 : Int32) (M : gM) : Option (Int32 × gM) :=
  if (20 : Int32) < x6 then
    if a1 = 0 then
      some (x4, M)
    else
      some (x5, M)
  else
    (f_X5_raisePrices F 26 x3 x6 94 10 M).bind fun r4 =>
    (f_X1_choose F 94 10 (r4 26 5) r4).bind fun r5 =>
    (f_X1_priceOfWorn F x3 94 10 r5).bind fun r6 =>
    if r6 ≤ x5 then
      k45 x3 x4 x5 (x6 + (1 : Int32)) r5
    else
      k45 x3 x6 r6 (x6 + (1 : Int32)) r5
def f_X8_raise_h45 (F : Nat) (a0 : Int32) (a1 : Int32) : Nat → Int32 → Int32 → Int32 → Int32 → gM → Option (Int32 × gM)
  | 0, _, _, _, _, _ => none
  | n + 1, x3, x4, x5, x6, M => f_X8_raise_h45_b F a0 a1 (f_X8_raise_h45 F a0 a1 n) x3 x4 x5 x6 M
theorem f_X8_raise_h45_spec (F : Nat) (a0 : Int32) (a1 : Int32)  (I : Int32 → Int32 → Int32 → Int32 → gM → Prop) (μ : Int32 → Int32 → Int32 → Int32 → gM → Nat) (φ : Int32 → Int32 → Int32 → Int32 → gM → Option (Int32 × gM))
    (h : ∀ (self : Int32 → Int32 → Int32 → Int32 → gM → Option (Int32 × gM)) (x3 : Int32) (x4 : Int32) (x5 : Int32) (x6 : Int32) (M : gM), I x3 x4 x5 x6 M → (∀ (x3' : Int32) (x4' : Int32) (x5' : Int32) (x6' : Int32) (M' : gM), I x3' x4' x5' x6' M' → μ x3' x4' x5' x6' M' < μ x3 x4 x5 x6 M → self x3' x4' x5' x6' M' = φ x3' x4' x5' x6' M') → f_X8_raise_h45_b F a0 a1 self x3 x4 x5 x6 M = φ x3 x4 x5 x6 M) :
    ∀ (n : Nat) (x3 : Int32) (x4 : Int32) (x5 : Int32) (x6 : Int32) (M : gM), I x3 x4 x5 x6 M → μ x3 x4 x5 x6 M < n → f_X8_raise_h45 F a0 a1 n x3 x4 x5 x6 M = φ x3 x4 x5 x6 M := by
  intro n
  induction n with
  | zero => intro x3 x4 x5 x6 M _ hm; exact absurd hm (Nat.not_lt_zero _)
  | succ n ih => intro x3 x4 x5 x6 M hI hm; exact h _ x3 x4 x5 x6 M hI (fun x3' x4' x5' x6' M' hI2 hlt => ih x3' x4' x5' x6' M' hI2 (by omega))
def f_X8_raise (F : Nat) (a0 : Int32) (a1 : Int32) (M : gM) : Option (Int32 × gM) :=
  (f_X8_isLandlord a0 M).bind fun r1 =>
  if r1 = 0 then
    some ((-1000000002 : Int32), M)
  else
    if a1 < 0 then
      some ((-1000000002 : Int32), M)
    else
      if a1 ≤ (1 : Int32) then
        (f_X7_ownedBy F 3 a0 M).bind fun r2 =>
        (f_X1_gather F (0 : Int32) M).bind fun r3 =>
        f_X8_raise_h45 F a0 a1 F r2 (0 : Int32) (-1 : Int32) (0 : Int32) r3
      else
        some ((-1000000002 : Int32), M)
/-! X8_rent -/
def f_X8_rent (F : Nat) (a0 : Int32) (M : gM) : Option (Int32 × gM) :=
  (f_X8_isLandlord a0 M).bind fun r1 =>
  if r1 = 0 then
    some ((-1000000002 : Int32), M)
  else
    (f_X8_dressBest F (0 : Int32) M).bind fun r2 =>
    (f_X7_ownedBy F 3 a0 r2).bind fun r3 =>
    (f_X1_priceOfWorn F r3 28 10 r2).bind fun r4 =>
    some (r4, r2)
/-! X8_scene -/
def f_X8_scene (a0 : Int32) (a1 : Int32) (M : gM) : Option Int32 :=
  (f_X7_hasScene 3 a0 M).bind fun r1 =>
  if r1 = 0 then
    some (-1000000001 : Int32)
  else
    if a1 = (0 : Int32) then
      ck (ib a0 8) <|
      some (M 11 a0.toNatClampNeg)
    else
    if a1 = (1 : Int32) then
      ck (ib a0 8) <|
      some (M 12 a0.toNatClampNeg)
    else
    if a1 = (2 : Int32) then
      ck (ib a0 8) <|
      some (M 13 a0.toNatClampNeg)
    else
    some (-1000000002 : Int32)
/-! X8_see -/
def f_X8_see (a0 : Int32) (a1 : Int32) (M : gM) : Option (Int32 × gM) :=
  (f_X8_isHour a0 M).bind fun r1 =>
  if r1 = 0 then
    some ((-1000000002 : Int32), M)
  else
    if a1 < 0 then
      some ((-1000000002 : Int32), M)
    else
      if a1 ≤ (27 : Int32) then
        (f_X4_add a0 a1 M).bind fun r2 =>
        if r2.1 = 0 then
          some ((-1000000004 : Int32), r2.2)
        else
          some (r2.2 88 4, r2.2)
      else
        some ((-1000000002 : Int32), M)
/-! X8_seed -/
def f_X8_seed (a0 : Int32) (M : gM) : Option (Int32 × gM) :=
  if 0 ≤ a0 then
    lt_ (M 26 6) fun v1 =>
    ltM (gst M 26 6 a0) fun M2 =>
    some (v1, M2)
  else
    some ((-1000000002 : Int32), M)
/-! X8_seen -/
def f_X8_seen (F : Nat) (a0 : Int32) (a1 : Int32) (M : gM) : Option Int32 :=
  if a1 < 0 then
    some (-1000000002 : Int32)
  else
    if a1 ≤ (1 : Int32) then
      if a0 < 0 then
        some (-1 : Int32)
      else
        if a0 < (M 88 4) then
          if a1 = 0 then
            (f_X4_mayBeWorn F a0 M).bind fun r2 =>
            some r2
          else
            (f_X4_surelyWorn F a0 M).bind fun r1 =>
            some r1
        else
          some (-1 : Int32)
    else
      some (-1000000002 : Int32)
/-! X8_strange -/
def f_X8_strange (F : Nat) (M : gM) : Option Int32 :=
  (f_X4_firstStrange F M).bind fun r1 =>
  some r1
/-! X8_tear -/
def f_X8_tear (M : gM) : Option (Int32 × gM) :=
  lt_ ((M 91 3) + (M 88 4)) fun v1 =>
  ltM (gst M 91 3 (0 : Int32)) fun M2 =>
  ltM (gst M2 88 4 (0 : Int32)) fun M3 =>
  some (v1, M3)
/-! X8_told -/
def f_X8_told (F : Nat) (a0 : Int32) (M : gM) : Option Int32 :=
  if a0 = (0 : Int32) then
    some (M 3 10)
  else
  if a0 = (1 : Int32) then
    some (M 3 12)
  else
  if a0 = (2 : Int32) then
    some (M 3 11)
  else
  if a0 = (3 : Int32) then
    some (M 1 1)
  else
  if a0 = (4 : Int32) then
    some (M 26 5)
  else
  if a0 = (5 : Int32) then
    some (M 26 3)
  else
  if a0 = (6 : Int32) then
    some (M 26 4)
  else
  if a0 = (7 : Int32) then
    some (M 88 4)
  else
  if a0 = (8 : Int32) then
    some (M 91 3)
  else
  if a0 = (9 : Int32) then
    some (M 39 5)
  else
  if a0 = (10 : Int32) then
    (f_X2_widthsIf F (-1 : Int32) (0 : Int32) M).bind fun r12 =>
    some r12
  else
  some (-1000000002 : Int32)
/-! X8_town -/
def f_X8_town (F : Nat) (M : gM) : Option (Int32 × gM) :=
  (f_X3_readTown F M).bind fun r1 =>
  lt_ r1.1 fun v2 =>
  ltM (gst r1.2 0 13 (r1.2 25 5)) fun M3 =>
  ltM (gst M3 1 1 (0 : Int32)) fun M4 =>
  if v2 = 0 then
    (f_X7_copyFrom F 3 14 M4).bind fun r5 =>
    (f_X5_beginIn F 26 3 r5).bind fun r6 =>
    (f_X2_build F r6).bind fun r7 =>
    ltM (gst r7 88 4 (0 : Int32)) fun M8 =>
    ltM (gst M8 91 3 (0 : Int32)) fun M9 =>
    ck (ib (0 : Int32) 2) <|
    ltM (gst M9 38 (0 : Int32).toNatClampNeg ((0 : Int32) &&& 1)) fun M10 =>
    ck (ib (1 : Int32) 2) <|
    ltM (gst M10 38 (1 : Int32).toNatClampNeg ((0 : Int32) &&& 1)) fun M11 =>
    some (M11 3 10, M11)
  else
    some ((-10 : Int32) - v2, M4)
/-! X8_wedding -/
def f_X8_wedding_b115 (F : Nat) (a0 : Int32) (a1 : Int32) (M : gM) (k37 : Int32 → Int32 → Int32 → Int32 → Option Int32) (k55 : Int32 → Int32 → Int32 → Int32 → Int32 → Option Int32) (x5 : Int32) (x6 : Int32) (x7 : Int32) (x8 : Int32) : Option Int32 :=
  (f_X2_partsOf x6 M).bind fun r8 =>
  (f_X2_partsOf x7 M).bind fun r9 =>
  lt_ (r8 ||| r9) fun v10 =>
  k55 x8 v10 x5 x6 (x7 + (1 : Int32))
def f_X8_wedding_h55_b (F : Nat) (a0 : Int32) (a1 : Int32) (M : gM) (k37 : Int32 → Int32 → Int32 → Int32 → Option Int32) (k55 : Int32 → Int32 → Int32 → Int32 → Int32 → Option Int32) (x3 : Int32) (x4 : Int32) (x5 : Int32) (x6 : Int32) (x7 : Int32) : Option Int32 :=
  if (M 39 5) ≤ x7 then
    k37 x3 x4 x5 (x6 + (1 : Int32))
  else
    (f_X2_mayMarry x6 x7 x5 M).bind fun r4 =>
    if r4 = 0 then
      k55 x3 x4 x5 x6 (x7 + (1 : Int32))
    else
      (f_X2_priceOf x6 M).bind fun r5 =>
      (f_X2_priceOf x7 M).bind fun r6 =>
      lt_ (r5 + r6) fun v7 =>
      if x3 = (-1 : Int32) then
        f_X8_wedding_b115 F a0 a1 M k37 k55 x5 x6 x7 v7
      else
        if x3 ≤ v7 then
          k55 x3 x4 x5 x6 (x7 + (1 : Int32))
        else
          f_X8_wedding_b115 F a0 a1 M k37 k55 x5 x6 x7 v7
def f_X8_wedding_h55 (F : Nat) (a0 : Int32) (a1 : Int32) (M : gM) (k37 : Int32 → Int32 → Int32 → Int32 → Option Int32) : Nat → Int32 → Int32 → Int32 → Int32 → Int32 → Option Int32
  | 0, _, _, _, _, _ => none
  | n + 1, x3, x4, x5, x6, x7 => f_X8_wedding_h55_b F a0 a1 M k37 (f_X8_wedding_h55 F a0 a1 M k37 n) x3 x4 x5 x6 x7
theorem f_X8_wedding_h55_spec (F : Nat) (a0 : Int32) (a1 : Int32) (M : gM) (k37 : Int32 → Int32 → Int32 → Int32 → Option Int32) (I : Int32 → Int32 → Int32 → Int32 → Int32 → Prop) (μ : Int32 → Int32 → Int32 → Int32 → Int32 → Nat) (φ : Int32 → Int32 → Int32 → Int32 → Int32 → Option Int32)
    (h : ∀ (self : Int32 → Int32 → Int32 → Int32 → Int32 → Option Int32) (x3 : Int32) (x4 : Int32) (x5 : Int32) (x6 : Int32) (x7 : Int32), I x3 x4 x5 x6 x7 → (∀ (x3' : Int32) (x4' : Int32) (x5' : Int32) (x6' : Int32) (x7' : Int32), I x3' x4' x5' x6' x7' → μ x3' x4' x5' x6' x7' < μ x3 x4 x5 x6 x7 → self x3' x4' x5' x6' x7' = φ x3' x4' x5' x6' x7') → f_X8_wedding_h55_b F a0 a1 M k37 self x3 x4 x5 x6 x7 = φ x3 x4 x5 x6 x7) :
    ∀ (n : Nat) (x3 : Int32) (x4 : Int32) (x5 : Int32) (x6 : Int32) (x7 : Int32), I x3 x4 x5 x6 x7 → μ x3 x4 x5 x6 x7 < n → f_X8_wedding_h55 F a0 a1 M k37 n x3 x4 x5 x6 x7 = φ x3 x4 x5 x6 x7 := by
  intro n
  induction n with
  | zero => intro x3 x4 x5 x6 x7 _ hm; exact absurd hm (Nat.not_lt_zero _)
  | succ n ih => intro x3 x4 x5 x6 x7 hI hm; exact h _ x3 x4 x5 x6 x7 hI (fun x3' x4' x5' x6' x7' hI2 hlt => ih x3' x4' x5' x6' x7' hI2 (by omega))
def f_X8_wedding_h37_b (F : Nat) (a0 : Int32) (a1 : Int32) (M : gM) (k37 : Int32 → Int32 → Int32 → Int32 → Option Int32) (x3 : Int32) (x4 : Int32) (x5 : Int32) (x6 : Int32) : Option Int32 :=
  if (M 39 5) ≤ x6 then
    if a1 = 0 then
      some x3
    else
      some x4
  else
    lt_ (x6 + (1 : Int32)) fun v3 =>
    f_X8_wedding_h55 F a0 a1 M k37 F x3 x4 x5 x6 v3
def f_X8_wedding_h37 (F : Nat) (a0 : Int32) (a1 : Int32) (M : gM) : Nat → Int32 → Int32 → Int32 → Int32 → Option Int32
  | 0, _, _, _, _ => none
  | n + 1, x3, x4, x5, x6 => f_X8_wedding_h37_b F a0 a1 M (f_X8_wedding_h37 F a0 a1 M n) x3 x4 x5 x6
theorem f_X8_wedding_h37_spec (F : Nat) (a0 : Int32) (a1 : Int32) (M : gM)  (I : Int32 → Int32 → Int32 → Int32 → Prop) (μ : Int32 → Int32 → Int32 → Int32 → Nat) (φ : Int32 → Int32 → Int32 → Int32 → Option Int32)
    (h : ∀ (self : Int32 → Int32 → Int32 → Int32 → Option Int32) (x3 : Int32) (x4 : Int32) (x5 : Int32) (x6 : Int32), I x3 x4 x5 x6 → (∀ (x3' : Int32) (x4' : Int32) (x5' : Int32) (x6' : Int32), I x3' x4' x5' x6' → μ x3' x4' x5' x6' < μ x3 x4 x5 x6 → self x3' x4' x5' x6' = φ x3' x4' x5' x6') → f_X8_wedding_h37_b F a0 a1 M self x3 x4 x5 x6 = φ x3 x4 x5 x6) :
    ∀ (n : Nat) (x3 : Int32) (x4 : Int32) (x5 : Int32) (x6 : Int32), I x3 x4 x5 x6 → μ x3 x4 x5 x6 < n → f_X8_wedding_h37 F a0 a1 M n x3 x4 x5 x6 = φ x3 x4 x5 x6 := by
  intro n
  induction n with
  | zero => intro x3 x4 x5 x6 _ hm; exact absurd hm (Nat.not_lt_zero _)
  | succ n ih => intro x3 x4 x5 x6 hI hm; exact h _ x3 x4 x5 x6 hI (fun x3' x4' x5' x6' hI2 hlt => ih x3' x4' x5' x6' hI2 (by omega))
def f_X8_wedding (F : Nat) (a0 : Int32) (a1 : Int32) (M : gM) : Option Int32 :=
  (f_X8_isHour a0 M).bind fun r1 =>
  if r1 = 0 then
    some (-1000000002 : Int32)
  else
    if a1 < 0 then
      some (-1000000002 : Int32)
    else
      if a1 ≤ (1 : Int32) then
        (f_X7_freeIn F 3 a0 M).bind fun r2 =>
        f_X8_wedding_h37 F a0 a1 M F (-1 : Int32) (-1 : Int32) r2 (0 : Int32)
      else
        some (-1000000002 : Int32)
/-! X8_width -/
def f_X8_width (a0 : Int32) (a1 : Int32) (M : gM) : Option (Int32 × gM) :=
  (f_X7_hasPart 3 a0 M).bind fun r1 =>
  if r1 = 0 then
    some ((-1000000001 : Int32), M)
  else
    if a1 < 0 then
      some ((-1000000002 : Int32), M)
    else
      if a1 ≤ (9 : Int32) then
        ck (ib a0 10) <|
        lt_ (M 27 a0.toNatClampNeg) fun v2 =>
        ck (ib a0 10) <|
        ltM (gst M 27 a0.toNatClampNeg a1) fun M3 =>
        some (v2, M3)
      else
        some ((-1000000002 : Int32), M)
/-! X8_without -/
def f_X8_without (F : Nat) (a0 : Int32) (M : gM) : Option (Int32 × gM) :=
  (f_X8_isLandlord a0 M).bind fun r1 =>
  if r1 = 0 then
    some ((-1000000002 : Int32), M)
  else
    (f_X8_dressBest F (0 : Int32) M).bind fun r2 =>
    lt_ (r2 43 8) fun v3 =>
    (f_X7_ownedBy F 3 a0 r2).bind fun r4 =>
    (f_X8_dressBest F r4 r2).bind fun r5 =>
    lt_ (r5 43 8) fun v6 =>
    if v3 = (-1 : Int32) then
      some ((-1 : Int32), r5)
    else
      if v6 = (-1 : Int32) then
        some ((-1 : Int32), r5)
      else
        some (v6 - v3, r5)
/-! X8_write -/
def f_X8_write (a0 : Int32) (a1 : Int32) (M : gM) : Option (Int32 × gM) :=
  (f_X7_hasPart 3 a1 M).bind fun r1 =>
  if r1 = 0 then
    some ((-1000000001 : Int32), M)
  else
    (f_X8_isHour a0 M).bind fun r2 =>
    if r2 = 0 then
      some ((-1000000002 : Int32), M)
    else
      (f_X0_add a0 a1 M).bind fun r3 =>
      if r3.1 = 0 then
        some ((-1000000004 : Int32), r3.2)
      else
        some (r3.2 91 3, r3.2)
/-! X9_has -/
def f_X9_has (a0 : Int32) (a1 : Int32) (M : gM) : Option Int32 :=
  if ((a0 >>> (a1 &&& 31)) &&& (1 : Int32)) = (1 : Int32) then
    some (1 : Int32)
  else
    some (0 : Int32)
/-! X9_in -/
def f_X9_in (a0 : Int64) (a1 : Int64) (a2 : Int64) (M : gM) : Option Int32 :=
  if (lg_cmp a0 a1) < 0 then
    some (0 : Int32)
  else
    if 0 < (lg_cmp a0 a2) then
      some (0 : Int32)
    else
      some (1 : Int32)
/-! X9_isFree -/
def f_X9_isFree_h5_b (F : Nat) (a0 : Int32) (a1 : Int32) (M : gM) (k5 : Int32 → Int32 → Option Int32) (x3 : Int32) (x4 : Int32) : Option Int32 :=
  ck (ib (0 : Int32) 8) <|
  if (M 108 (0 : Int32).toNatClampNeg) ≤ x4 then
    ck (gb x3) (some x3)
  else
    if x3 = 0 then
      k5 (0 : Int32) (x4 + (1 : Int32))
    else
      (f_X9_has a0 x4 M).bind fun r1 =>
      if r1 = 0 then
        k5 (1 : Int32) (x4 + (1 : Int32))
      else
        ck (ib x4 20) <|
        ck (ib x4 20) <|
        (f_X9_in a1.toInt64 ((M 102 x4.toNatClampNeg).toInt64) ((M 103 x4.toNatClampNeg).toInt64) M).bind fun r2 =>
        if r2 = 0 then
          k5 (0 : Int32) (x4 + (1 : Int32))
        else
          (f_X9_has (M 95 22) x4 M).bind fun r3 =>
          if r3 = 0 then
            k5 (1 : Int32) (x4 + (1 : Int32))
          else
            k5 (0 : Int32) (x4 + (1 : Int32))
def f_X9_isFree_h5 (F : Nat) (a0 : Int32) (a1 : Int32) (M : gM) : Nat → Int32 → Int32 → Option Int32
  | 0, _, _ => none
  | n + 1, x3, x4 => f_X9_isFree_h5_b F a0 a1 M (f_X9_isFree_h5 F a0 a1 M n) x3 x4
theorem f_X9_isFree_h5_spec (F : Nat) (a0 : Int32) (a1 : Int32) (M : gM)  (I : Int32 → Int32 → Prop) (μ : Int32 → Int32 → Nat) (φ : Int32 → Int32 → Option Int32)
    (h : ∀ (self : Int32 → Int32 → Option Int32) (x3 : Int32) (x4 : Int32), I x3 x4 → (∀ (x3' : Int32) (x4' : Int32), I x3' x4' → μ x3' x4' < μ x3 x4 → self x3' x4' = φ x3' x4') → f_X9_isFree_h5_b F a0 a1 M self x3 x4 = φ x3 x4) :
    ∀ (n : Nat) (x3 : Int32) (x4 : Int32), I x3 x4 → μ x3 x4 < n → f_X9_isFree_h5 F a0 a1 M n x3 x4 = φ x3 x4 := by
  intro n
  induction n with
  | zero => intro x3 x4 _ hm; exact absurd hm (Nat.not_lt_zero _)
  | succ n ih => intro x3 x4 hI hm; exact h _ x3 x4 hI (fun x3' x4' hI2 hlt => ih x3' x4' hI2 (by omega))
def f_X9_isFree (F : Nat) (a0 : Int32) (a1 : Int32) (M : gM) : Option Int32 :=
  f_X9_isFree_h5 F a0 a1 M F (1 : Int32) (0 : Int32)
/-! X9_sumOf -/
def f_X9_sumOf_h5_b (F : Nat) (a0 : Int32) (a1 : Int32) (M : gM) (k5 : Int32 → Int32 → Option Int32) (x3 : Int32) (x4 : Int32) : Option Int32 :=
  ck (ib (0 : Int32) 8) <|
  if (M 108 (0 : Int32).toNatClampNeg) ≤ x4 then
    some x3
  else
    (f_X9_has a1 x4 M).bind fun r1 =>
    if r1 = 0 then
      lt_ (x3 + (0 : Int32)) fun v2 =>
      k5 v2 (x4 + (1 : Int32))
    else
      ck (ib (a0 + x4) 160) <|
      lt_ (x3 + (M 96 (a0 + x4).toNatClampNeg)) fun v3 =>
      k5 v3 (x4 + (1 : Int32))
def f_X9_sumOf_h5 (F : Nat) (a0 : Int32) (a1 : Int32) (M : gM) : Nat → Int32 → Int32 → Option Int32
  | 0, _, _ => none
  | n + 1, x3, x4 => f_X9_sumOf_h5_b F a0 a1 M (f_X9_sumOf_h5 F a0 a1 M n) x3 x4
theorem f_X9_sumOf_h5_spec (F : Nat) (a0 : Int32) (a1 : Int32) (M : gM)  (I : Int32 → Int32 → Prop) (μ : Int32 → Int32 → Nat) (φ : Int32 → Int32 → Option Int32)
    (h : ∀ (self : Int32 → Int32 → Option Int32) (x3 : Int32) (x4 : Int32), I x3 x4 → (∀ (x3' : Int32) (x4' : Int32), I x3' x4' → μ x3' x4' < μ x3 x4 → self x3' x4' = φ x3' x4') → f_X9_sumOf_h5_b F a0 a1 M self x3 x4 = φ x3 x4) :
    ∀ (n : Nat) (x3 : Int32) (x4 : Int32), I x3 x4 → μ x3 x4 < n → f_X9_sumOf_h5 F a0 a1 M n x3 x4 = φ x3 x4 := by
  intro n
  induction n with
  | zero => intro x3 x4 _ hm; exact absurd hm (Nat.not_lt_zero _)
  | succ n ih => intro x3 x4 hI hm; exact h _ x3 x4 hI (fun x3' x4' hI2 hlt => ih x3' x4' hI2 (by omega))
def f_X9_sumOf (F : Nat) (a0 : Int32) (a1 : Int32) (M : gM) : Option Int32 :=
  f_X9_sumOf_h5 F a0 a1 M F (0 : Int32) (0 : Int32)
/-! X9_isFor -/
def f_X9_isFor (F : Nat) (a0 : Int32) (a1 : Int32) (a2 : Int32) (M : gM) : Option Int32 :=
  ck (ib a2 16) <|
  (f_X9_isFree F a1 (M 105 a2.toNatClampNeg) M).bind fun r1 =>
  if r1 = 0 then
    some (0 : Int32)
  else
    (f_X9_sumOf F a0 a1 M).bind fun r2 =>
    ck (ib a2 16) <|
    ck (ib a2 16) <|
    (f_X9_in r2.toInt64 ((M 106 a2.toNatClampNeg).toInt64) ((M 107 a2.toNatClampNeg).toInt64) M).bind fun r3 =>
    if r3 = 0 then
      some (0 : Int32)
    else
      some (1 : Int32)
/-! X9_addScene -/
def f_X9_addScene_h62_b (F : Nat) (a0 : Int32) (a1 : Int32) (k36 : Int32 → gM → Option gM) (k62 : Int32 → Int32 → gM → Option gM) (x3 : Int32) (x4 : Int32) (M : gM) : Option gM :=
  if (1024 : Int32) ≤ x4 then
    k36 (x3 + (1 : Int32)) M
  else
    ck (ib x4 1024) <|
    if (M 113 x4.toNatClampNeg) = 0 then
      k62 x3 (x4 + (1 : Int32)) M
    else
      ck (ib x3 64) <|
      if (x4 &&& (M 110 x3.toNatClampNeg)) = 0 then
        ck (ib x3 64) <|
        ck (ib (x4 ||| (M 110 x3.toNatClampNeg)) 1024) <|
        ltM (gst M 114 (x4 ||| (M 110 x3.toNatClampNeg)).toNatClampNeg ((1 : Int32) &&& 1)) fun M2 =>
        k62 x3 (x4 + (1 : Int32)) M2
      else
        k62 x3 (x4 + (1 : Int32)) M
def f_X9_addScene_h62 (F : Nat) (a0 : Int32) (a1 : Int32) (k36 : Int32 → gM → Option gM) : Nat → Int32 → Int32 → gM → Option gM
  | 0, _, _, _ => none
  | n + 1, x3, x4, M => f_X9_addScene_h62_b F a0 a1 k36 (f_X9_addScene_h62 F a0 a1 k36 n) x3 x4 M
theorem f_X9_addScene_h62_spec (F : Nat) (a0 : Int32) (a1 : Int32) (k36 : Int32 → gM → Option gM) (I : Int32 → Int32 → gM → Prop) (μ : Int32 → Int32 → gM → Nat) (φ : Int32 → Int32 → gM → Option gM)
    (h : ∀ (self : Int32 → Int32 → gM → Option gM) (x3 : Int32) (x4 : Int32) (M : gM), I x3 x4 M → (∀ (x3' : Int32) (x4' : Int32) (M' : gM), I x3' x4' M' → μ x3' x4' M' < μ x3 x4 M → self x3' x4' M' = φ x3' x4' M') → f_X9_addScene_h62_b F a0 a1 k36 self x3 x4 M = φ x3 x4 M) :
    ∀ (n : Nat) (x3 : Int32) (x4 : Int32) (M : gM), I x3 x4 M → μ x3 x4 M < n → f_X9_addScene_h62 F a0 a1 k36 n x3 x4 M = φ x3 x4 M := by
  intro n
  induction n with
  | zero => intro x3 x4 M _ hm; exact absurd hm (Nat.not_lt_zero _)
  | succ n ih => intro x3 x4 M hI hm; exact h _ x3 x4 M hI (fun x3' x4' M' hI2 hlt => ih x3' x4' M' hI2 (by omega))
def f_X9_addScene_h36_b (F : Nat) (a0 : Int32) (a1 : Int32) (k36 : Int32 → gM → Option gM) (x3 : Int32) (M : gM) : Option gM :=
  if (M 95 21) ≤ x3 then
    some M
  else
    ck (ib x3 64) <|
    (f_X9_isFor F a0 (M 110 x3.toNatClampNeg) a1 M).bind fun r1 =>
    if r1 = 0 then
      k36 (x3 + (1 : Int32)) M
    else
      f_X9_addScene_h62 F a0 a1 k36 F x3 (0 : Int32) M
def f_X9_addScene_h36 (F : Nat) (a0 : Int32) (a1 : Int32) : Nat → Int32 → gM → Option gM
  | 0, _, _ => none
  | n + 1, x3, M => f_X9_addScene_h36_b F a0 a1 (f_X9_addScene_h36 F a0 a1 n) x3 M
theorem f_X9_addScene_h36_spec (F : Nat) (a0 : Int32) (a1 : Int32)  (I : Int32 → gM → Prop) (μ : Int32 → gM → Nat) (φ : Int32 → gM → Option gM)
    (h : ∀ (self : Int32 → gM → Option gM) (x3 : Int32) (M : gM), I x3 M → (∀ (x3' : Int32) (M' : gM), I x3' M' → μ x3' M' < μ x3 M → self x3' M' = φ x3' M') → f_X9_addScene_h36_b F a0 a1 self x3 M = φ x3 M) :
    ∀ (n : Nat) (x3 : Int32) (M : gM), I x3 M → μ x3 M < n → f_X9_addScene_h36 F a0 a1 n x3 M = φ x3 M := by
  intro n
  induction n with
  | zero => intro x3 M _ hm; exact absurd hm (Nat.not_lt_zero _)
  | succ n ih => intro x3 M hI hm; exact h _ x3 M hI (fun x3' M' hI2 hlt => ih x3' M' hI2 (by omega))
def f_X9_addScene_h2_b (F : Nat) (a0 : Int32) (a1 : Int32) (k2 : Int32 → gM → Option gM) (x3 : Int32) (M : gM) : Option gM :=
  if (1024 : Int32) ≤ x3 then
    f_X9_addScene_h36 F a0 a1 F (0 : Int32) M
  else
    ck (ib x3 1024) <|
    ck (ib x3 1024) <|
    ltM (gst M 113 x3.toNatClampNeg ((M 114 x3.toNatClampNeg) &&& 1)) fun M3 =>
    ck (ib x3 1024) <|
    ltM (gst M3 114 x3.toNatClampNeg ((0 : Int32) &&& 1)) fun M4 =>
    k2 (x3 + (1 : Int32)) M4
def f_X9_addScene_h2 (F : Nat) (a0 : Int32) (a1 : Int32) : Nat → Int32 → gM → Option gM
  | 0, _, _ => none
  | n + 1, x3, M => f_X9_addScene_h2_b F a0 a1 (f_X9_addScene_h2 F a0 a1 n) x3 M
theorem f_X9_addScene_h2_spec (F : Nat) (a0 : Int32) (a1 : Int32)  (I : Int32 → gM → Prop) (μ : Int32 → gM → Nat) (φ : Int32 → gM → Option gM)
    (h : ∀ (self : Int32 → gM → Option gM) (x3 : Int32) (M : gM), I x3 M → (∀ (x3' : Int32) (M' : gM), I x3' M' → μ x3' M' < μ x3 M → self x3' M' = φ x3' M') → f_X9_addScene_h2_b F a0 a1 self x3 M = φ x3 M) :
    ∀ (n : Nat) (x3 : Int32) (M : gM), I x3 M → μ x3 M < n → f_X9_addScene_h2 F a0 a1 n x3 M = φ x3 M := by
  intro n
  induction n with
  | zero => intro x3 M _ hm; exact absurd hm (Nat.not_lt_zero _)
  | succ n ih => intro x3 M hI hm; exact h _ x3 M hI (fun x3' M' hI2 hlt => ih x3' M' hI2 (by omega))
def f_X9_addScene (F : Nat) (a0 : Int32) (a1 : Int32) (M : gM) : Option gM :=
  f_X9_addScene_h2 F a0 a1 F (0 : Int32) M
/-! X9_best -/
def f_X9_best_b89 (F : Nat) (a0 : Int32) (a1 : Int32) (a2 : Int32) (M : gM) (k7 : Int32 → Int32 → Option Int32) (x4 : Int32) (x5 : Int32) (s0 : Int32) (s1 : Int32) (s3 : Int32) : Option Int32 :=
  ck (ib (s1 + s0) 13312) <|
  lt_ (s3 + (M 112 (s1 + s0).toNatClampNeg)) fun v2 =>
  if x4 ≤ v2 then
    k7 x4 (x5 + (1 : Int32))
  else
    k7 v2 (x5 + (1 : Int32))
def f_X9_best_b50 (F : Nat) (a0 : Int32) (a1 : Int32) (a2 : Int32) (M : gM) (k7 : Int32 → Int32 → Option Int32) (x4 : Int32) (x5 : Int32) : Option Int32 :=
  (f_X9_sumOf F (a0 + (10 : Int32)) x5 M).bind fun r1 =>
  ck (ib (a0 + (31 : Int32)) 160) <|
  if (M 96 (a0 + (31 : Int32)).toNatClampNeg) = 0 then
    f_X9_best_b89 F a0 a1 a2 M k7 x4 x5 (0 : Int32) ((1024 : Int32) * (a1 + (1 : Int32))) r1
  else
    f_X9_best_b89 F a0 a1 a2 M k7 x4 x5 x5 ((1024 : Int32) * (a1 + (1 : Int32))) r1
def f_X9_best_h7_b (F : Nat) (a0 : Int32) (a1 : Int32) (a2 : Int32) (M : gM) (k7 : Int32 → Int32 → Option Int32) (x4 : Int32) (x5 : Int32) : Option Int32 :=
  if (1024 : Int32) ≤ x5 then
    some x4
  else
    ck (ib (((1024 : Int32) * a1) + x5) 12288) <|
    if (M 111 (((1024 : Int32) * a1) + x5).toNatClampNeg) = 0 then
      k7 x4 (x5 + (1 : Int32))
    else
      ck (ib (a0 + (31 : Int32)) 160) <|
      if (M 96 (a0 + (31 : Int32)).toNatClampNeg) = 0 then
        f_X9_best_b50 F a0 a1 a2 M k7 x4 x5
      else
        if (x5 &&& a2) = 0 then
          f_X9_best_b50 F a0 a1 a2 M k7 x4 x5
        else
          k7 x4 (x5 + (1 : Int32))
def f_X9_best_h7 (F : Nat) (a0 : Int32) (a1 : Int32) (a2 : Int32) (M : gM) : Nat → Int32 → Int32 → Option Int32
  | 0, _, _ => none
  | n + 1, x4, x5 => f_X9_best_h7_b F a0 a1 a2 M (f_X9_best_h7 F a0 a1 a2 M n) x4 x5
theorem f_X9_best_h7_spec (F : Nat) (a0 : Int32) (a1 : Int32) (a2 : Int32) (M : gM)  (I : Int32 → Int32 → Prop) (μ : Int32 → Int32 → Nat) (φ : Int32 → Int32 → Option Int32)
    (h : ∀ (self : Int32 → Int32 → Option Int32) (x4 : Int32) (x5 : Int32), I x4 x5 → (∀ (x4' : Int32) (x5' : Int32), I x4' x5' → μ x4' x5' < μ x4 x5 → self x4' x5' = φ x4' x5') → f_X9_best_h7_b F a0 a1 a2 M self x4 x5 = φ x4 x5) :
    ∀ (n : Nat) (x4 : Int32) (x5 : Int32), I x4 x5 → μ x4 x5 < n → f_X9_best_h7 F a0 a1 a2 M n x4 x5 = φ x4 x5 := by
  intro n
  induction n with
  | zero => intro x4 x5 _ hm; exact absurd hm (Nat.not_lt_zero _)
  | succ n ih => intro x4 x5 hI hm; exact h _ x4 x5 hI (fun x4' x5' hI2 hlt => ih x4' x5' hI2 (by omega))
def f_X9_best (F : Nat) (a0 : Int32) (a1 : Int32) (a2 : Int32) (M : gM) : Option Int32 :=
  f_X9_best_h7 F a0 a1 a2 M F (1000000 : Int32) (0 : Int32)
