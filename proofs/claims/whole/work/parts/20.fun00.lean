/-! J6_bitCount_0f7a4 -/
def f_J6_bitCount_0f7a4 (a0 : Int32) (M : gM) : Option Int32 :=
  lt_ (a0 - (((a0.toUInt32 >>> ((1 : Int32).toUInt32 &&& Int32.toUInt32 31)).toInt32) &&& (1431655765 : Int32))) fun v1 =>
  lt_ ((v1 &&& (858993459 : Int32)) + (((v1.toUInt32 >>> ((2 : Int32).toUInt32 &&& Int32.toUInt32 31)).toInt32) &&& (858993459 : Int32))) fun v2 =>
  lt_ ((v2 + ((v2.toUInt32 >>> ((4 : Int32).toUInt32 &&& Int32.toUInt32 31)).toInt32)) &&& (252645135 : Int32)) fun v3 =>
  lt_ (v3 + ((v3.toUInt32 >>> ((8 : Int32).toUInt32 &&& Int32.toUInt32 31)).toInt32)) fun v4 =>
  lt_ (v4 + ((v4.toUInt32 >>> ((16 : Int32).toUInt32 &&& Int32.toUInt32 31)).toInt32)) fun v5 =>
  some (v5 &&& (63 : Int32))
/-! X0_add -/
def f_X0_add (a0 : Int32) (a1 : Int32) (M : gM) : Option (Int32 × gM) :=
  if (M 91 3) < (40 : Int32) then
    ck (ib (M 91 3) 40) <|
    ltM (gst M 92 (M 91 3).toNatClampNeg a0) fun M1 =>
    ck (ib (M1 91 3) 40) <|
    ltM (gst M1 93 (M1 91 3).toNatClampNeg a1) fun M2 =>
    ltM (gst M2 91 3 ((M2 91 3) + (1 : Int32))) fun M3 =>
    some ((1 : Int32), M3)
  else
    some ((0 : Int32), M)
/-! X7_hasPart -/
def f_X7_hasPart (t : Nat) (a0 : Int32) (M : gM) : Option Int32 :=
  if a0 < 0 then
    some (0 : Int32)
  else
    if (M t 10) ≤ a0 then
      some (0 : Int32)
    else
      some (1 : Int32)
/-! X7_isFree -/
def f_X7_isFree (t : Nat) (a0 : Int32) (a1 : Int32) (M : gM) : Option Int32 :=
  (f_X7_hasPart t a0 M).bind fun r1 =>
  if r1 = 0 then
    some (0 : Int32)
  else
    ck (ib a0 10) <|
    if a1 < (M (rf t 4) a0.toNatClampNeg) then
      some (0 : Int32)
    else
      ck (ib a0 10) <|
      if (M (rf t 5) a0.toNatClampNeg) < a1 then
        some (0 : Int32)
      else
        some (1 : Int32)
/-! X0_wasToldAhead -/
def f_X0_wasToldAhead_h2_b (F : Nat) (a0 : Int32) (a1 : Int32) (M : gM) (k2 : Int32 → Option Int32) (x3 : Int32) : Option Int32 :=
  if a0 ≤ x3 then
    some (0 : Int32)
  else
    ck (ib x3 40) <|
    ck (ib a0 40) <|
    if (M 93 x3.toNatClampNeg) = (M 93 a0.toNatClampNeg) then
      ck (ib x3 40) <|
      ck (ib a0 40) <|
      if a1 < (if 0 ≤ ((M 92 x3.toNatClampNeg) - (M 92 a0.toNatClampNeg)) then ((M 92 x3.toNatClampNeg) - (M 92 a0.toNatClampNeg)) else 0 - ((M 92 x3.toNatClampNeg) - (M 92 a0.toNatClampNeg))) then
        k2 (x3 + (1 : Int32))
      else
        some (1 : Int32)
    else
      k2 (x3 + (1 : Int32))
def f_X0_wasToldAhead_h2 (F : Nat) (a0 : Int32) (a1 : Int32) (M : gM) : Nat → Int32 → Option Int32
  | 0, _ => none
  | n + 1, x3 => f_X0_wasToldAhead_h2_b F a0 a1 M (f_X0_wasToldAhead_h2 F a0 a1 M n) x3
theorem f_X0_wasToldAhead_h2_spec (F : Nat) (a0 : Int32) (a1 : Int32) (M : gM)  (I : Int32 → Prop) (μ : Int32 → Nat) (φ : Int32 → Option Int32)
    (h : ∀ (self : Int32 → Option Int32) (x3 : Int32), I x3 → (∀ (x3' : Int32), I x3' → μ x3' < μ x3 → self x3' = φ x3') → f_X0_wasToldAhead_h2_b F a0 a1 M self x3 = φ x3) :
    ∀ (n : Nat) (x3 : Int32), I x3 → μ x3 < n → f_X0_wasToldAhead_h2 F a0 a1 M n x3 = φ x3 := by
  intro n
  induction n with
  | zero => intro x3 _ hm; exact absurd hm (Nat.not_lt_zero _)
  | succ n ih => intro x3 hI hm; exact h _ x3 hI (fun x3' hI2 hlt => ih x3' hI2 (by omega))
def f_X0_wasToldAhead (F : Nat) (a0 : Int32) (a1 : Int32) (M : gM) : Option Int32 :=
  f_X0_wasToldAhead_h2 F a0 a1 M F (0 : Int32)
/-! X0_firstWrong -/
def f_X0_firstWrong_h2_b (F : Nat) (a0 : Int32) (M : gM) (k2 : Int32 → Option Int32) (x2 : Int32) : Option Int32 :=
  if (M 91 3) ≤ x2 then
    some (-1 : Int32)
  else
    ck (ib x2 40) <|
    ck (ib x2 40) <|
    (f_X7_isFree 3 (M 93 x2.toNatClampNeg) (M 92 x2.toNatClampNeg) M).bind fun r1 =>
    if r1 = 0 then
      some x2
    else
      (f_X0_wasToldAhead F x2 a0 M).bind fun r2 =>
      if r2 = 0 then
        k2 (x2 + (1 : Int32))
      else
        some x2
def f_X0_firstWrong_h2 (F : Nat) (a0 : Int32) (M : gM) : Nat → Int32 → Option Int32
  | 0, _ => none
  | n + 1, x2 => f_X0_firstWrong_h2_b F a0 M (f_X0_firstWrong_h2 F a0 M n) x2
theorem f_X0_firstWrong_h2_spec (F : Nat) (a0 : Int32) (M : gM)  (I : Int32 → Prop) (μ : Int32 → Nat) (φ : Int32 → Option Int32)
    (h : ∀ (self : Int32 → Option Int32) (x2 : Int32), I x2 → (∀ (x2' : Int32), I x2' → μ x2' < μ x2 → self x2' = φ x2') → f_X0_firstWrong_h2_b F a0 M self x2 = φ x2) :
    ∀ (n : Nat) (x2 : Int32), I x2 → μ x2 < n → f_X0_firstWrong_h2 F a0 M n x2 = φ x2 := by
  intro n
  induction n with
  | zero => intro x2 _ hm; exact absurd hm (Nat.not_lt_zero _)
  | succ n ih => intro x2 hI hm; exact h _ x2 hI (fun x2' hI2 hlt => ih x2' hI2 (by omega))
def f_X0_firstWrong (F : Nat) (a0 : Int32) (M : gM) : Option Int32 :=
  f_X0_firstWrong_h2 F a0 M F (0 : Int32)
/-! X1_addSet -/
def f_X1_addSet_h93_b (F : Nat) (a0 : Int32) (a1 : Int32) (a2 : Int32) (k93 : Nat → Int32 → Int32 → Int32 → gM → Option gM) (y4 : Nat) (x5 : Int32) (x6 : Int32) (x7 : Int32) (M : gM) : Option gM :=
  if x7 ≤ x6 then
    ck (ib x6 64) <|
    ltM (gst M y4 x6.toNatClampNeg a1) fun M3 =>
    ckh (ib a0 13) <|
    ck (ib x6 64) <|
    ltM (gst M3 (rf 59 a0.toNatClampNeg) x6.toNatClampNeg a2) fun M5 =>
    ck (ib a0 13) <|
    ltM (gst M5 44 a0.toNatClampNeg (x5 + (1 : Int32))) fun M6 =>
    some M6
  else
    ck (ib (x7 - (1 : Int32)) 64) <|
    ck (ib x7 64) <|
    ltM (gst M y4 x7.toNatClampNeg (M y4 (x7 - (1 : Int32)).toNatClampNeg)) fun M7 =>
    ckh (ib a0 13) <|
    ckh (ib a0 13) <|
    ck (ib (x7 - (1 : Int32)) 64) <|
    ck (ib x7 64) <|
    ltM (gst M7 (rf 59 a0.toNatClampNeg) x7.toNatClampNeg (M7 (rf 59 a0.toNatClampNeg) (x7 - (1 : Int32)).toNatClampNeg)) fun M10 =>
    k93 y4 x5 x6 (x7 + (-1 : Int32)) M10
def f_X1_addSet_h93 (F : Nat) (a0 : Int32) (a1 : Int32) (a2 : Int32) : Nat → Nat → Int32 → Int32 → Int32 → gM → Option gM
  | 0, _, _, _, _, _ => none
  | n + 1, y4, x5, x6, x7, M => f_X1_addSet_h93_b F a0 a1 a2 (f_X1_addSet_h93 F a0 a1 a2 n) y4 x5 x6 x7 M
theorem f_X1_addSet_h93_spec (F : Nat) (a0 : Int32) (a1 : Int32) (a2 : Int32)  (I : Nat → Int32 → Int32 → Int32 → gM → Prop) (μ : Nat → Int32 → Int32 → Int32 → gM → Nat) (φ : Nat → Int32 → Int32 → Int32 → gM → Option gM)
    (h : ∀ (self : Nat → Int32 → Int32 → Int32 → gM → Option gM) (y4 : Nat) (x5 : Int32) (x6 : Int32) (x7 : Int32) (M : gM), I y4 x5 x6 x7 M → (∀ (y4' : Nat) (x5' : Int32) (x6' : Int32) (x7' : Int32) (M' : gM), I y4' x5' x6' x7' M' → μ y4' x5' x6' x7' M' < μ y4 x5 x6 x7 M → self y4' x5' x6' x7' M' = φ y4' x5' x6' x7' M') → f_X1_addSet_h93_b F a0 a1 a2 self y4 x5 x6 x7 M = φ y4 x5 x6 x7 M) :
    ∀ (n : Nat) (y4 : Nat) (x5 : Int32) (x6 : Int32) (x7 : Int32) (M : gM), I y4 x5 x6 x7 M → μ y4 x5 x6 x7 M < n → f_X1_addSet_h93 F a0 a1 a2 n y4 x5 x6 x7 M = φ y4 x5 x6 x7 M := by
  intro n
  induction n with
  | zero => intro y4 x5 x6 x7 M _ hm; exact absurd hm (Nat.not_lt_zero _)
  | succ n ih => intro y4 x5 x6 x7 M hI hm; exact h _ y4 x5 x6 x7 M hI (fun y4' x5' x6' x7' M' hI2 hlt => ih y4' x5' x6' x7' M' hI2 (by omega))
def f_X1_addSet_b81 (F : Nat) (a0 : Int32) (a1 : Int32) (a2 : Int32) (y4 : Nat) (x5 : Int32) (x6 : Int32) (M : gM) : Option gM :=
  if x5 < (64 : Int32) then
    f_X1_addSet_h93 F a0 a1 a2 F y4 x5 x6 x5 M
  else
    some M
def f_X1_addSet_b42 (F : Nat) (a0 : Int32) (a1 : Int32) (a2 : Int32) (y4 : Nat) (x5 : Int32) (x6 : Int32) (M : gM) : Option gM :=
  if x5 ≤ x6 then
    f_X1_addSet_b81 F a0 a1 a2 y4 x5 x6 M
  else
    ck (ib x6 64) <|
    if (M y4 x6.toNatClampNeg) = a1 then
      ckh (ib a0 13) <|
      ckh (ib a0 13) <|
      ck (ib x6 64) <|
      ck (ib x6 64) <|
      ltM (gst M (rf 59 a0.toNatClampNeg) x6.toNatClampNeg (if a2 < (M (rf 59 a0.toNatClampNeg) x6.toNatClampNeg) then a2 else (M (rf 59 a0.toNatClampNeg) x6.toNatClampNeg))) fun M13 =>
      some M13
    else
      f_X1_addSet_b81 F a0 a1 a2 y4 x5 x6 M
def f_X1_addSet_h20_b (F : Nat) (a0 : Int32) (a1 : Int32) (a2 : Int32) (k20 : Nat → Int32 → Int32 → gM → Option gM) (y4 : Nat) (x5 : Int32) (x6 : Int32) (M : gM) : Option gM :=
  if x6 ≤ 0 then
    f_X1_addSet_b42 F a0 a1 a2 y4 x5 x6 M
  else
    ck (ib (x6 - (1 : Int32)) 64) <|
    if (M y4 (x6 - (1 : Int32)).toNatClampNeg) < a1 then
      f_X1_addSet_b42 F a0 a1 a2 y4 x5 x6 M
    else
      k20 y4 x5 (x6 + (-1 : Int32)) M
def f_X1_addSet_h20 (F : Nat) (a0 : Int32) (a1 : Int32) (a2 : Int32) : Nat → Nat → Int32 → Int32 → gM → Option gM
  | 0, _, _, _, _ => none
  | n + 1, y4, x5, x6, M => f_X1_addSet_h20_b F a0 a1 a2 (f_X1_addSet_h20 F a0 a1 a2 n) y4 x5 x6 M
theorem f_X1_addSet_h20_spec (F : Nat) (a0 : Int32) (a1 : Int32) (a2 : Int32)  (I : Nat → Int32 → Int32 → gM → Prop) (μ : Nat → Int32 → Int32 → gM → Nat) (φ : Nat → Int32 → Int32 → gM → Option gM)
    (h : ∀ (self : Nat → Int32 → Int32 → gM → Option gM) (y4 : Nat) (x5 : Int32) (x6 : Int32) (M : gM), I y4 x5 x6 M → (∀ (y4' : Nat) (x5' : Int32) (x6' : Int32) (M' : gM), I y4' x5' x6' M' → μ y4' x5' x6' M' < μ y4 x5 x6 M → self y4' x5' x6' M' = φ y4' x5' x6' M') → f_X1_addSet_h20_b F a0 a1 a2 self y4 x5 x6 M = φ y4 x5 x6 M) :
    ∀ (n : Nat) (y4 : Nat) (x5 : Int32) (x6 : Int32) (M : gM), I y4 x5 x6 M → μ y4 x5 x6 M < n → f_X1_addSet_h20 F a0 a1 a2 n y4 x5 x6 M = φ y4 x5 x6 M := by
  intro n
  induction n with
  | zero => intro y4 x5 x6 M _ hm; exact absurd hm (Nat.not_lt_zero _)
  | succ n ih => intro y4 x5 x6 M hI hm; exact h _ y4 x5 x6 M hI (fun y4' x5' x6' M' hI2 hlt => ih y4' x5' x6' M' hI2 (by omega))
def f_X1_addSet (F : Nat) (a0 : Int32) (a1 : Int32) (a2 : Int32) (M : gM) : Option gM :=
  ckh (ib a0 13) <|
  ck (ib a0 13) <|
  lt_ (M 44 a0.toNatClampNeg) fun v2 =>
  f_X1_addSet_h20 F a0 a1 a2 F (rf 45 a0.toNatClampNeg) v2 v2 M
/-! X1_firstCheapest -/
def f_X1_firstCheapest_b53 (F : Nat) (a0 : Int32) (a1 : Int32) (a2 : Int32) (M : gM) (k10 : Int32 → Int32 → Int32 → Option Int32) (x6 : Int32) : Option Int32 :=
  ckh (ib a0 12) <|
  ck (ib x6 64) <|
  lt_ (M (rf 73 a0.toNatClampNeg) x6.toNatClampNeg) fun v3 =>
  k10 x6 v3 (x6 + (1 : Int32))
def f_X1_firstCheapest_h10_b (F : Nat) (a0 : Int32) (a1 : Int32) (a2 : Int32) (M : gM) (k10 : Int32 → Int32 → Int32 → Option Int32) (x4 : Int32) (x5 : Int32) (x6 : Int32) : Option Int32 :=
  ck (ib a0 13) <|
  if (M 44 a0.toNatClampNeg) ≤ x6 then
    some x4
  else
    ckh (ib a0 12) <|
    ck (ib x6 64) <|
    if x5 ≤ (M (rf 73 a0.toNatClampNeg) x6.toNatClampNeg) then
      k10 x4 x5 (x6 + (1 : Int32))
    else
      if a2 = 0 then
        f_X1_firstCheapest_b53 F a0 a1 a2 M k10 x6
      else
        ckh (ib a0 13) <|
        ck (ib x6 64) <|
        if ((M (rf 45 a0.toNatClampNeg) x6.toNatClampNeg) &&& a1) = 0 then
          f_X1_firstCheapest_b53 F a0 a1 a2 M k10 x6
        else
          k10 x4 x5 (x6 + (1 : Int32))
def f_X1_firstCheapest_h10 (F : Nat) (a0 : Int32) (a1 : Int32) (a2 : Int32) (M : gM) : Nat → Int32 → Int32 → Int32 → Option Int32
  | 0, _, _, _ => none
  | n + 1, x4, x5, x6 => f_X1_firstCheapest_h10_b F a0 a1 a2 M (f_X1_firstCheapest_h10 F a0 a1 a2 M n) x4 x5 x6
theorem f_X1_firstCheapest_h10_spec (F : Nat) (a0 : Int32) (a1 : Int32) (a2 : Int32) (M : gM)  (I : Int32 → Int32 → Int32 → Prop) (μ : Int32 → Int32 → Int32 → Nat) (φ : Int32 → Int32 → Int32 → Option Int32)
    (h : ∀ (self : Int32 → Int32 → Int32 → Option Int32) (x4 : Int32) (x5 : Int32) (x6 : Int32), I x4 x5 x6 → (∀ (x4' : Int32) (x5' : Int32) (x6' : Int32), I x4' x5' x6' → μ x4' x5' x6' < μ x4 x5 x6 → self x4' x5' x6' = φ x4' x5' x6') → f_X1_firstCheapest_h10_b F a0 a1 a2 M self x4 x5 x6 = φ x4 x5 x6) :
    ∀ (n : Nat) (x4 : Int32) (x5 : Int32) (x6 : Int32), I x4 x5 x6 → μ x4 x5 x6 < n → f_X1_firstCheapest_h10 F a0 a1 a2 M n x4 x5 x6 = φ x4 x5 x6 := by
  intro n
  induction n with
  | zero => intro x4 x5 x6 _ hm; exact absurd hm (Nat.not_lt_zero _)
  | succ n ih => intro x4 x5 x6 hI hm; exact h _ x4 x5 x6 hI (fun x4' x5' x6' hI2 hlt => ih x4' x5' x6' hI2 (by omega))
def f_X1_firstCheapest (F : Nat) (a0 : Int32) (a1 : Int32) (a2 : Int32) (M : gM) : Option Int32 :=
  f_X1_firstCheapest_h10 F a0 a1 a2 M F (-1 : Int32) (1000000000 : Int32) (0 : Int32)
/-! X1_cheapestAfter -/
def f_X1_cheapestAfter (F : Nat) (a0 : Int32) (a1 : Int32) (a2 : Int32) (M : gM) : Option Int32 :=
  if (a0 + (1 : Int32)) < (12 : Int32) then
    (f_X1_firstCheapest F (a0 + (1 : Int32)) a1 a2 M).bind fun r1 =>
    if r1 = (-1 : Int32) then
      some (1000000000 : Int32)
    else
      ckh (ib (a0 + (1 : Int32)) 12) <|
      ck (ib r1 64) <|
      some (M (rf 73 (a0 + (1 : Int32)).toNatClampNeg) r1.toNatClampNeg)
  else
    some (0 : Int32)
/-! X8_has -/
def f_X8_has (a0 : Int32) (a1 : Int32) (M : gM) : Option Int32 :=
  if ((a0 >>> (a1 &&& 31)) &&& (1 : Int32)) = 0 then
    some (0 : Int32)
  else
    some (1 : Int32)
/-! X8_sumOver -/
def f_X8_sumOver_h4_b (F : Nat) (a0 : Int32) (a1 : Nat) (na1 : Nat) (M : gM) (k4 : Int32 → Int32 → Option Int32) (x2 : Int32) (x3 : Int32) : Option Int32 :=
  if (Int32.ofNat na1) ≤ x3 then
    some x2
  else
    (f_X8_has a0 x3 M).bind fun r1 =>
    if r1 = 0 then
      k4 x2 (x3 + (1 : Int32))
    else
      ck (ib x3 na1) <|
      lt_ (x2 + (M a1 x3.toNatClampNeg)) fun v2 =>
      k4 v2 (x3 + (1 : Int32))
def f_X8_sumOver_h4 (F : Nat) (a0 : Int32) (a1 : Nat) (na1 : Nat) (M : gM) : Nat → Int32 → Int32 → Option Int32
  | 0, _, _ => none
  | n + 1, x2, x3 => f_X8_sumOver_h4_b F a0 a1 na1 M (f_X8_sumOver_h4 F a0 a1 na1 M n) x2 x3
theorem f_X8_sumOver_h4_spec (F : Nat) (a0 : Int32) (a1 : Nat) (na1 : Nat) (M : gM)  (I : Int32 → Int32 → Prop) (μ : Int32 → Int32 → Nat) (φ : Int32 → Int32 → Option Int32)
    (h : ∀ (self : Int32 → Int32 → Option Int32) (x2 : Int32) (x3 : Int32), I x2 x3 → (∀ (x2' : Int32) (x3' : Int32), I x2' x3' → μ x2' x3' < μ x2 x3 → self x2' x3' = φ x2' x3') → f_X8_sumOver_h4_b F a0 a1 na1 M self x2 x3 = φ x2 x3) :
    ∀ (n : Nat) (x2 : Int32) (x3 : Int32), I x2 x3 → μ x2 x3 < n → f_X8_sumOver_h4 F a0 a1 na1 M n x2 x3 = φ x2 x3 := by
  intro n
  induction n with
  | zero => intro x2 x3 _ hm; exact absurd hm (Nat.not_lt_zero _)
  | succ n ih => intro x2 x3 hI hm; exact h _ x2 x3 hI (fun x2' x3' hI2 hlt => ih x2' x3' hI2 (by omega))
def f_X8_sumOver (F : Nat) (a0 : Int32) (a1 : Nat) (na1 : Nat) (M : gM) : Option Int32 :=
  f_X8_sumOver_h4 F a0 a1 na1 M F (0 : Int32) (0 : Int32)
/-! X1_giveLooks -/
def f_X1_giveLooks_h13_b (F : Nat) (a0 : Int32) (a1 : Int32) (k13 : Int32 → Int32 → gM → Option gM) (x3 : Int32) (x4 : Int32) (M : gM) : Option gM :=
  if x4 < 0 then
    some M
  else
    ck (ib x4 8) <|
    if (M 11 x4.toNatClampNeg) = a0 then
      ck (ib x4 8) <|
      ltM (gst M 87 x4.toNatClampNeg (x3 - x3 / (64 : Int32) * (64 : Int32))) fun M2 =>
      lt_ (x3 / (64 : Int32)) fun v3 =>
      k13 v3 (x4 + (-1 : Int32)) M2
    else
      k13 x3 (x4 + (-1 : Int32)) M
def f_X1_giveLooks_h13 (F : Nat) (a0 : Int32) (a1 : Int32) : Nat → Int32 → Int32 → gM → Option gM
  | 0, _, _, _ => none
  | n + 1, x3, x4, M => f_X1_giveLooks_h13_b F a0 a1 (f_X1_giveLooks_h13 F a0 a1 n) x3 x4 M
theorem f_X1_giveLooks_h13_spec (F : Nat) (a0 : Int32) (a1 : Int32)  (I : Int32 → Int32 → gM → Prop) (μ : Int32 → Int32 → gM → Nat) (φ : Int32 → Int32 → gM → Option gM)
    (h : ∀ (self : Int32 → Int32 → gM → Option gM) (x3 : Int32) (x4 : Int32) (M : gM), I x3 x4 M → (∀ (x3' : Int32) (x4' : Int32) (M' : gM), I x3' x4' M' → μ x3' x4' M' < μ x3 x4 M → self x3' x4' M' = φ x3' x4' M') → f_X1_giveLooks_h13_b F a0 a1 self x3 x4 M = φ x3 x4 M) :
    ∀ (n : Nat) (x3 : Int32) (x4 : Int32) (M : gM), I x3 x4 M → μ x3 x4 M < n → f_X1_giveLooks_h13 F a0 a1 n x3 x4 M = φ x3 x4 M := by
  intro n
  induction n with
  | zero => intro x3 x4 M _ hm; exact absurd hm (Nat.not_lt_zero _)
  | succ n ih => intro x3 x4 M hI hm; exact h _ x3 x4 M hI (fun x3' x4' M' hI2 hlt => ih x3' x4' M' hI2 (by omega))
def f_X1_giveLooks (F : Nat) (a0 : Int32) (a1 : Int32) (M : gM) : Option gM :=
  lt_ ((M 3 12) - (1 : Int32)) fun v1 =>
  f_X1_giveLooks_h13 F a0 a1 F a1 v1 M
/-! X1_choose -/
def f_X1_choose_b153 (F : Nat) (a0 : Nat) (na0 : Nat) (a1 : Int32) (k103 : Int32 → Int32 → gM → Option gM) (x4 : Int32) (x5 : Int32) (s0 : Int32) (M : gM) : Option gM :=
  ck (ib x4 12) <|
  ltM (gst M 86 x4.toNatClampNeg s0) fun M6 =>
  if x5 = (-1 : Int32) then
    (f_X1_giveLooks F x4 (0 : Int32) M6).bind fun r9 =>
    k103 s0 (x4 + (1 : Int32)) r9
  else
    ckh (ib x4 13) <|
    ck (ib x5 64) <|
    (f_X1_giveLooks F x4 (M6 (rf 59 x4.toNatClampNeg) x5.toNatClampNeg) M6).bind fun r8 =>
    k103 s0 (x4 + (1 : Int32)) r8
def f_X1_choose_b131 (F : Nat) (a0 : Nat) (na0 : Nat) (a1 : Int32) (k103 : Int32 → Int32 → gM → Option gM) (x4 : Int32) (s0 : Int32) (M : gM) : Option gM :=
  if s0 = (-1 : Int32) then
    f_X1_choose_b153 F a0 na0 a1 k103 x4 s0 (0 : Int32) M
  else
    ckh (ib x4 13) <|
    ck (ib s0 64) <|
    f_X1_choose_b153 F a0 na0 a1 k103 x4 s0 (M (rf 45 x4.toNatClampNeg) s0.toNatClampNeg) M
def f_X1_choose_h103_b (F : Nat) (a0 : Nat) (na0 : Nat) (a1 : Int32) (k103 : Int32 → Int32 → gM → Option gM) (x3 : Int32) (x4 : Int32) (M : gM) : Option gM :=
  if (12 : Int32) ≤ x4 then
    if (M 43 8) = (1000000000 : Int32) then
      ltM (gst M 43 8 (-1 : Int32)) fun M3 =>
      some M3
    else
      some M
  else
    if (M 43 8) = (1000000000 : Int32) then
      f_X1_choose_b131 F a0 na0 a1 k103 x4 (-1 : Int32) M
    else
      (f_X1_firstCheapest F x4 x3 a1 M).bind fun r4 =>
      f_X1_choose_b131 F a0 na0 a1 k103 x4 r4 M
def f_X1_choose_h103 (F : Nat) (a0 : Nat) (na0 : Nat) (a1 : Int32) : Nat → Int32 → Int32 → gM → Option gM
  | 0, _, _, _ => none
  | n + 1, x3, x4, M => f_X1_choose_h103_b F a0 na0 a1 (f_X1_choose_h103 F a0 na0 a1 n) x3 x4 M
theorem f_X1_choose_h103_spec (F : Nat) (a0 : Nat) (na0 : Nat) (a1 : Int32)  (I : Int32 → Int32 → gM → Prop) (μ : Int32 → Int32 → gM → Nat) (φ : Int32 → Int32 → gM → Option gM)
    (h : ∀ (self : Int32 → Int32 → gM → Option gM) (x3 : Int32) (x4 : Int32) (M : gM), I x3 x4 M → (∀ (x3' : Int32) (x4' : Int32) (M' : gM), I x3' x4' M' → μ x3' x4' M' < μ x3 x4 M → self x3' x4' M' = φ x3' x4' M') → f_X1_choose_h103_b F a0 na0 a1 self x3 x4 M = φ x3 x4 M) :
    ∀ (n : Nat) (x3 : Int32) (x4 : Int32) (M : gM), I x3 x4 M → μ x3 x4 M < n → f_X1_choose_h103 F a0 na0 a1 n x3 x4 M = φ x3 x4 M := by
  intro n
  induction n with
  | zero => intro x3 x4 M _ hm; exact absurd hm (Nat.not_lt_zero _)
  | succ n ih => intro x3 x4 M hI hm; exact h _ x3 x4 M hI (fun x3' x4' M' hI2 hlt => ih x3' x4' M' hI2 (by omega))
def f_X1_choose_h10_b (F : Nat) (a0 : Nat) (na0 : Nat) (a1 : Int32) (k3 : Int32 → gM → Option gM) (k10 : Int32 → Int32 → gM → Option gM) (x3 : Int32) (x4 : Int32) (M : gM) : Option gM :=
  ck (ib x3 13) <|
  if (M 44 x3.toNatClampNeg) ≤ x4 then
    k3 (x3 + (-1 : Int32)) M
  else
    ckh (ib x3 13) <|
    ck (ib x4 64) <|
    (f_X1_cheapestAfter F x3 (M (rf 45 x3.toNatClampNeg) x4.toNatClampNeg) a1 M).bind fun r11 =>
    ckh (ib x3 12) <|
    if r11 = (1000000000 : Int32) then
      ck (ib x4 64) <|
      ltM (gst M (rf 73 x3.toNatClampNeg) x4.toNatClampNeg (1000000000 : Int32)) fun M16 =>
      k10 x3 (x4 + (1 : Int32)) M16
    else
      ckh (ib x3 13) <|
      ck (ib x4 64) <|
      (f_X8_sumOver F (M (rf 45 x3.toNatClampNeg) x4.toNatClampNeg) a0 na0 M).bind fun r14 =>
      ck (ib x4 64) <|
      ltM (gst M (rf 73 x3.toNatClampNeg) x4.toNatClampNeg (r11 + r14)) fun M15 =>
      k10 x3 (x4 + (1 : Int32)) M15
def f_X1_choose_h10 (F : Nat) (a0 : Nat) (na0 : Nat) (a1 : Int32) (k3 : Int32 → gM → Option gM) : Nat → Int32 → Int32 → gM → Option gM
  | 0, _, _, _ => none
  | n + 1, x3, x4, M => f_X1_choose_h10_b F a0 na0 a1 k3 (f_X1_choose_h10 F a0 na0 a1 k3 n) x3 x4 M
theorem f_X1_choose_h10_spec (F : Nat) (a0 : Nat) (na0 : Nat) (a1 : Int32) (k3 : Int32 → gM → Option gM) (I : Int32 → Int32 → gM → Prop) (μ : Int32 → Int32 → gM → Nat) (φ : Int32 → Int32 → gM → Option gM)
    (h : ∀ (self : Int32 → Int32 → gM → Option gM) (x3 : Int32) (x4 : Int32) (M : gM), I x3 x4 M → (∀ (x3' : Int32) (x4' : Int32) (M' : gM), I x3' x4' M' → μ x3' x4' M' < μ x3 x4 M → self x3' x4' M' = φ x3' x4' M') → f_X1_choose_h10_b F a0 na0 a1 k3 self x3 x4 M = φ x3 x4 M) :
    ∀ (n : Nat) (x3 : Int32) (x4 : Int32) (M : gM), I x3 x4 M → μ x3 x4 M < n → f_X1_choose_h10 F a0 na0 a1 k3 n x3 x4 M = φ x3 x4 M := by
  intro n
  induction n with
  | zero => intro x3 x4 M _ hm; exact absurd hm (Nat.not_lt_zero _)
  | succ n ih => intro x3 x4 M hI hm; exact h _ x3 x4 M hI (fun x3' x4' M' hI2 hlt => ih x3' x4' M' hI2 (by omega))
def f_X1_choose_h3_b (F : Nat) (a0 : Nat) (na0 : Nat) (a1 : Int32) (k3 : Int32 → gM → Option gM) (x3 : Int32) (M : gM) : Option gM :=
  if x3 < 0 then
    (f_X1_cheapestAfter F (-1 : Int32) (0 : Int32) a1 M).bind fun r1 =>
    ltM (gst M 43 8 r1) fun M2 =>
    f_X1_choose_h103 F a0 na0 a1 F (0 : Int32) (0 : Int32) M2
  else
    f_X1_choose_h10 F a0 na0 a1 k3 F x3 (0 : Int32) M
def f_X1_choose_h3 (F : Nat) (a0 : Nat) (na0 : Nat) (a1 : Int32) : Nat → Int32 → gM → Option gM
  | 0, _, _ => none
  | n + 1, x3, M => f_X1_choose_h3_b F a0 na0 a1 (f_X1_choose_h3 F a0 na0 a1 n) x3 M
theorem f_X1_choose_h3_spec (F : Nat) (a0 : Nat) (na0 : Nat) (a1 : Int32)  (I : Int32 → gM → Prop) (μ : Int32 → gM → Nat) (φ : Int32 → gM → Option gM)
    (h : ∀ (self : Int32 → gM → Option gM) (x3 : Int32) (M : gM), I x3 M → (∀ (x3' : Int32) (M' : gM), I x3' M' → μ x3' M' < μ x3 M → self x3' M' = φ x3' M') → f_X1_choose_h3_b F a0 na0 a1 self x3 M = φ x3 M) :
    ∀ (n : Nat) (x3 : Int32) (M : gM), I x3 M → μ x3 M < n → f_X1_choose_h3 F a0 na0 a1 n x3 M = φ x3 M := by
  intro n
  induction n with
  | zero => intro x3 M _ hm; exact absurd hm (Nat.not_lt_zero _)
  | succ n ih => intro x3 M hI hm; exact h _ x3 M hI (fun x3' M' hI2 hlt => ih x3' M' hI2 (by omega))
def f_X1_choose (F : Nat) (a0 : Nat) (na0 : Nat) (a1 : Int32) (M : gM) : Option gM :=
  f_X1_choose_h3 F a0 na0 a1 F (11 : Int32) M
/-! X8_copyRow -/
def f_X8_copyRow_h10_b (F : Nat) (a0 : Nat) (na0 : Nat) (a1 : Nat) (na1 : Nat) (k10 : Int32 → Int32 → gM → Option gM) (x2 : Int32) (x3 : Int32) (M : gM) : Option gM :=
  if x2 ≤ x3 then
    some M
  else
    ck (ib x3 na0) <|
    ck (ib x3 na1) <|
    ltM (gst M a1 x3.toNatClampNeg (M a0 x3.toNatClampNeg)) fun M2 =>
    k10 x2 (x3 + (1 : Int32)) M2
def f_X8_copyRow_h10 (F : Nat) (a0 : Nat) (na0 : Nat) (a1 : Nat) (na1 : Nat) : Nat → Int32 → Int32 → gM → Option gM
  | 0, _, _, _ => none
  | n + 1, x2, x3, M => f_X8_copyRow_h10_b F a0 na0 a1 na1 (f_X8_copyRow_h10 F a0 na0 a1 na1 n) x2 x3 M
theorem f_X8_copyRow_h10_spec (F : Nat) (a0 : Nat) (na0 : Nat) (a1 : Nat) (na1 : Nat)  (I : Int32 → Int32 → gM → Prop) (μ : Int32 → Int32 → gM → Nat) (φ : Int32 → Int32 → gM → Option gM)
    (h : ∀ (self : Int32 → Int32 → gM → Option gM) (x2 : Int32) (x3 : Int32) (M : gM), I x2 x3 M → (∀ (x2' : Int32) (x3' : Int32) (M' : gM), I x2' x3' M' → μ x2' x3' M' < μ x2 x3 M → self x2' x3' M' = φ x2' x3' M') → f_X8_copyRow_h10_b F a0 na0 a1 na1 self x2 x3 M = φ x2 x3 M) :
    ∀ (n : Nat) (x2 : Int32) (x3 : Int32) (M : gM), I x2 x3 M → μ x2 x3 M < n → f_X8_copyRow_h10 F a0 na0 a1 na1 n x2 x3 M = φ x2 x3 M := by
  intro n
  induction n with
  | zero => intro x2 x3 M _ hm; exact absurd hm (Nat.not_lt_zero _)
  | succ n ih => intro x2 x3 M hI hm; exact h _ x2 x3 M hI (fun x2' x3' M' hI2 hlt => ih x2' x3' M' hI2 (by omega))
def f_X8_copyRow (F : Nat) (a0 : Nat) (na0 : Nat) (a1 : Nat) (na1 : Nat) (M : gM) : Option gM :=
  lt_ (if (Int32.ofNat na1) < (Int32.ofNat na0) then (Int32.ofNat na1) else (Int32.ofNat na0)) fun v1 =>
  f_X8_copyRow_h10 F a0 na0 a1 na1 F v1 (0 : Int32) M
/-! X7_hasScene -/
def f_X7_hasScene (t : Nat) (a0 : Int32) (M : gM) : Option Int32 :=
  if a0 < 0 then
    some (0 : Int32)
  else
    if (M t 12) ≤ a0 then
      some (0 : Int32)
    else
      some (1 : Int32)
/-! X2_partsOf -/
def f_X2_partsOf (a0 : Int32) (M : gM) : Option Int32 :=
  if a0 < 0 then
    some (0 : Int32)
  else
    if (M 39 5) ≤ a0 then
      some (0 : Int32)
    else
      ck (ib a0 36) <|
      ck (ib a0 36) <|
      ck (ib a0 36) <|
      some ((((1 : Int32) <<< ((M 40 a0.toNatClampNeg) &&& 31)) ||| ((1 : Int32) <<< ((M 41 a0.toNatClampNeg) &&& 31))) ||| ((1 : Int32) <<< ((M 42 a0.toNatClampNeg) &&& 31)))
/-! X2_sumOf -/
def f_X2_sumOf (a0 : Int32) (a1 : Nat) (na1 : Nat) (M : gM) : Option Int32 :=
  if a0 < 0 then
    some (0 : Int32)
  else
    if (M 39 5) ≤ a0 then
      some (0 : Int32)
    else
      if (10 : Int32) ≤ (Int32.ofNat na1) then
        ck (ib a0 36) <|
        ck (ib (M 40 a0.toNatClampNeg) na1) <|
        ck (ib a0 36) <|
        ck (ib (M 41 a0.toNatClampNeg) na1) <|
        ck (ib a0 36) <|
        ck (ib (M 42 a0.toNatClampNeg) na1) <|
        some (((M a1 (M 40 a0.toNatClampNeg).toNatClampNeg) + (M a1 (M 41 a0.toNatClampNeg).toNatClampNeg)) + (M a1 (M 42 a0.toNatClampNeg).toNatClampNeg))
      else
        some (0 : Int32)
/-! X2_isFor -/
def f_X2_isFor (a0 : Int32) (a1 : Int32) (a2 : Int32) (M : gM) : Option Int32 :=
  (f_X7_hasScene 3 a1 M).bind fun r1 =>
  if r1 = 0 then
    some (0 : Int32)
  else
    (f_X2_partsOf a0 M).bind fun r2 =>
    if (r2 &&& (a2 ^^^ (-1 : Int32))) = 0 then
      (f_X2_sumOf a0 27 10 M).bind fun r3 =>
      ck (ib a1 8) <|
      if r3 < (M 12 a1.toNatClampNeg) then
        some (0 : Int32)
      else
        ck (ib a1 8) <|
        if (M 13 a1.toNatClampNeg) < r3 then
          some (0 : Int32)
        else
          some (1 : Int32)
    else
      some (0 : Int32)
/-! X1_dressOneMore -/
def f_X1_dressOneMore_h106_b (F : Nat) (a0 : Int32) (a1 : Int32) (a2 : Int32) (k66 : Int32 → gM → Option gM) (k106 : Int32 → Int32 → Int32 → gM → Option gM) (x4 : Int32) (x5 : Int32) (x6 : Int32) (M : gM) : Option gM :=
  ck (ib (12 : Int32) 13) <|
  if (M 44 (12 : Int32).toNatClampNeg) ≤ x6 then
    k66 (x4 + (1 : Int32)) M
  else
    ckh (ib (12 : Int32) 13) <|
    ck (ib x6 64) <|
    lt_ (M (rf 45 (12 : Int32).toNatClampNeg) x6.toNatClampNeg) fun v12 =>
    if (v12 &&& x5) = 0 then
      ckh (ib (12 : Int32) 13) <|
      ck (ib x6 64) <|
      (f_X1_addSet F a0 (v12 ||| x5) (((M (rf 59 (12 : Int32).toNatClampNeg) x6.toNatClampNeg) * (64 : Int32)) + x4) M).bind fun r14 =>
      k106 x4 x5 (x6 + (1 : Int32)) r14
    else
      k106 x4 x5 (x6 + (1 : Int32)) M
def f_X1_dressOneMore_h106 (F : Nat) (a0 : Int32) (a1 : Int32) (a2 : Int32) (k66 : Int32 → gM → Option gM) : Nat → Int32 → Int32 → Int32 → gM → Option gM
  | 0, _, _, _, _ => none
  | n + 1, x4, x5, x6, M => f_X1_dressOneMore_h106_b F a0 a1 a2 k66 (f_X1_dressOneMore_h106 F a0 a1 a2 k66 n) x4 x5 x6 M
theorem f_X1_dressOneMore_h106_spec (F : Nat) (a0 : Int32) (a1 : Int32) (a2 : Int32) (k66 : Int32 → gM → Option gM) (I : Int32 → Int32 → Int32 → gM → Prop) (μ : Int32 → Int32 → Int32 → gM → Nat) (φ : Int32 → Int32 → Int32 → gM → Option gM)
    (h : ∀ (self : Int32 → Int32 → Int32 → gM → Option gM) (x4 : Int32) (x5 : Int32) (x6 : Int32) (M : gM), I x4 x5 x6 M → (∀ (x4' : Int32) (x5' : Int32) (x6' : Int32) (M' : gM), I x4' x5' x6' M' → μ x4' x5' x6' M' < μ x4 x5 x6 M → self x4' x5' x6' M' = φ x4' x5' x6' M') → f_X1_dressOneMore_h106_b F a0 a1 a2 k66 self x4 x5 x6 M = φ x4 x5 x6 M) :
    ∀ (n : Nat) (x4 : Int32) (x5 : Int32) (x6 : Int32) (M : gM), I x4 x5 x6 M → μ x4 x5 x6 M < n → f_X1_dressOneMore_h106 F a0 a1 a2 k66 n x4 x5 x6 M = φ x4 x5 x6 M := by
  intro n
  induction n with
  | zero => intro x4 x5 x6 M _ hm; exact absurd hm (Nat.not_lt_zero _)
  | succ n ih => intro x4 x5 x6 M hI hm; exact h _ x4 x5 x6 M hI (fun x4' x5' x6' M' hI2 hlt => ih x4' x5' x6' M' hI2 (by omega))
def f_X1_dressOneMore_h66_b (F : Nat) (a0 : Int32) (a1 : Int32) (a2 : Int32) (k66 : Int32 → gM → Option gM) (x4 : Int32) (M : gM) : Option gM :=
  if (M 39 5) ≤ x4 then
    some M
  else
    (f_X2_isFor x4 a1 a2 M).bind fun r9 =>
    if r9 = 0 then
      k66 (x4 + (1 : Int32)) M
    else
      (f_X2_partsOf x4 M).bind fun r10 =>
      f_X1_dressOneMore_h106 F a0 a1 a2 k66 F x4 r10 (0 : Int32) M
def f_X1_dressOneMore_h66 (F : Nat) (a0 : Int32) (a1 : Int32) (a2 : Int32) : Nat → Int32 → gM → Option gM
  | 0, _, _ => none
  | n + 1, x4, M => f_X1_dressOneMore_h66_b F a0 a1 a2 (f_X1_dressOneMore_h66 F a0 a1 a2 n) x4 M
theorem f_X1_dressOneMore_h66_spec (F : Nat) (a0 : Int32) (a1 : Int32) (a2 : Int32)  (I : Int32 → gM → Prop) (μ : Int32 → gM → Nat) (φ : Int32 → gM → Option gM)
    (h : ∀ (self : Int32 → gM → Option gM) (x4 : Int32) (M : gM), I x4 M → (∀ (x4' : Int32) (M' : gM), I x4' M' → μ x4' M' < μ x4 M → self x4' M' = φ x4' M') → f_X1_dressOneMore_h66_b F a0 a1 a2 self x4 M = φ x4 M) :
    ∀ (n : Nat) (x4 : Int32) (M : gM), I x4 M → μ x4 M < n → f_X1_dressOneMore_h66 F a0 a1 a2 n x4 M = φ x4 M := by
  intro n
  induction n with
  | zero => intro x4 M _ hm; exact absurd hm (Nat.not_lt_zero _)
  | succ n ih => intro x4 M hI hm; exact h _ x4 M hI (fun x4' M' hI2 hlt => ih x4' M' hI2 (by omega))
def f_X1_dressOneMore (F : Nat) (a0 : Int32) (a1 : Int32) (a2 : Int32) (M : gM) : Option gM :=
  if a0 < 0 then
    some M
  else
    if a0 < (12 : Int32) then
      ckh (ib a0 13) <|
      ckh (ib (12 : Int32) 13) <|
      (f_X8_copyRow F (rf 45 a0.toNatClampNeg) 64 (rf 45 (12 : Int32).toNatClampNeg) 64 M).bind fun r3 =>
      ckh (ib a0 13) <|
      ckh (ib (12 : Int32) 13) <|
      (f_X8_copyRow F (rf 59 a0.toNatClampNeg) 64 (rf 59 (12 : Int32).toNatClampNeg) 64 r3).bind fun r6 =>
      ck (ib a0 13) <|
      ck (ib (12 : Int32) 13) <|
      ltM (gst r6 44 (12 : Int32).toNatClampNeg (r6 44 a0.toNatClampNeg)) fun M7 =>
      ck (ib a0 13) <|
      ltM (gst M7 44 a0.toNatClampNeg (0 : Int32)) fun M8 =>
      f_X1_dressOneMore_h66 F a0 a1 a2 F (0 : Int32) M8
    else
      some M
/-! X7_freeIn -/
def f_X7_freeIn_h4_b (F : Nat) (t : Nat) (a0 : Int32) (M : gM) (k4 : Int32 → Int32 → Option Int32) (x2 : Int32) (x3 : Int32) : Option Int32 :=
  if (M t 10) ≤ x3 then
    some x2
  else
    (f_X7_isFree t x3 a0 M).bind fun r1 =>
    if r1 = 0 then
      k4 x2 (x3 + (1 : Int32))
    else
      lt_ (x2 ||| ((1 : Int32) <<< (x3 &&& 31))) fun v2 =>
      k4 v2 (x3 + (1 : Int32))
def f_X7_freeIn_h4 (F : Nat) (t : Nat) (a0 : Int32) (M : gM) : Nat → Int32 → Int32 → Option Int32
  | 0, _, _ => none
  | n + 1, x2, x3 => f_X7_freeIn_h4_b F t a0 M (f_X7_freeIn_h4 F t a0 M n) x2 x3
theorem f_X7_freeIn_h4_spec (F : Nat) (t : Nat) (a0 : Int32) (M : gM)  (I : Int32 → Int32 → Prop) (μ : Int32 → Int32 → Nat) (φ : Int32 → Int32 → Option Int32)
    (h : ∀ (self : Int32 → Int32 → Option Int32) (x2 : Int32) (x3 : Int32), I x2 x3 → (∀ (x2' : Int32) (x3' : Int32), I x2' x3' → μ x2' x3' < μ x2 x3 → self x2' x3' = φ x2' x3') → f_X7_freeIn_h4_b F t a0 M self x2 x3 = φ x2 x3) :
    ∀ (n : Nat) (x2 : Int32) (x3 : Int32), I x2 x3 → μ x2 x3 < n → f_X7_freeIn_h4 F t a0 M n x2 x3 = φ x2 x3 := by
  intro n
  induction n with
  | zero => intro x2 x3 _ hm; exact absurd hm (Nat.not_lt_zero _)
  | succ n ih => intro x2 x3 hI hm; exact h _ x2 x3 hI (fun x2' x3' hI2 hlt => ih x2' x3' hI2 (by omega))
def f_X7_freeIn (F : Nat) (t : Nat) (a0 : Int32) (M : gM) : Option Int32 :=
  f_X7_freeIn_h4 F t a0 M F (0 : Int32) (0 : Int32)
/-! X1_gather -/
def f_X1_gather_h30_b (F : Nat) (a0 : Int32) (k30 : Int32 → gM → Option gM) (x2 : Int32) (M : gM) : Option gM :=
  if (M 3 12) ≤ x2 then
    some M
  else
    ck (ib x2 8) <|
    ck (ib x2 8) <|
    (f_X7_freeIn F 3 (M 11 x2.toNatClampNeg) M).bind fun r1 =>
    (f_X1_dressOneMore F (M 11 x2.toNatClampNeg) x2 (r1 &&& (a0 ^^^ (-1 : Int32))) M).bind fun r2 =>
    k30 (x2 + (1 : Int32)) r2
def f_X1_gather_h30 (F : Nat) (a0 : Int32) : Nat → Int32 → gM → Option gM
  | 0, _, _ => none
  | n + 1, x2, M => f_X1_gather_h30_b F a0 (f_X1_gather_h30 F a0 n) x2 M
theorem f_X1_gather_h30_spec (F : Nat) (a0 : Int32)  (I : Int32 → gM → Prop) (μ : Int32 → gM → Nat) (φ : Int32 → gM → Option gM)
    (h : ∀ (self : Int32 → gM → Option gM) (x2 : Int32) (M : gM), I x2 M → (∀ (x2' : Int32) (M' : gM), I x2' M' → μ x2' M' < μ x2 M → self x2' M' = φ x2' M') → f_X1_gather_h30_b F a0 self x2 M = φ x2 M) :
    ∀ (n : Nat) (x2 : Int32) (M : gM), I x2 M → μ x2 M < n → f_X1_gather_h30 F a0 n x2 M = φ x2 M := by
  intro n
  induction n with
  | zero => intro x2 M _ hm; exact absurd hm (Nat.not_lt_zero _)
  | succ n ih => intro x2 M hI hm; exact h _ x2 M hI (fun x2' M' hI2 hlt => ih x2' M' hI2 (by omega))
def f_X1_gather_h2_b (F : Nat) (a0 : Int32) (k2 : Int32 → gM → Option gM) (x2 : Int32) (M : gM) : Option gM :=
  if (12 : Int32) ≤ x2 then
    f_X1_gather_h30 F a0 F (0 : Int32) M
  else
    ck (ib x2 13) <|
    ltM (gst M 44 x2.toNatClampNeg (0 : Int32)) fun M3 =>
    (f_X1_addSet F x2 (0 : Int32) (0 : Int32) M3).bind fun r4 =>
    k2 (x2 + (1 : Int32)) r4
def f_X1_gather_h2 (F : Nat) (a0 : Int32) : Nat → Int32 → gM → Option gM
  | 0, _, _ => none
  | n + 1, x2, M => f_X1_gather_h2_b F a0 (f_X1_gather_h2 F a0 n) x2 M
theorem f_X1_gather_h2_spec (F : Nat) (a0 : Int32)  (I : Int32 → gM → Prop) (μ : Int32 → gM → Nat) (φ : Int32 → gM → Option gM)
    (h : ∀ (self : Int32 → gM → Option gM) (x2 : Int32) (M : gM), I x2 M → (∀ (x2' : Int32) (M' : gM), I x2' M' → μ x2' M' < μ x2 M → self x2' M' = φ x2' M') → f_X1_gather_h2_b F a0 self x2 M = φ x2 M) :
    ∀ (n : Nat) (x2 : Int32) (M : gM), I x2 M → μ x2 M < n → f_X1_gather_h2 F a0 n x2 M = φ x2 M := by
  intro n
  induction n with
  | zero => intro x2 M _ hm; exact absurd hm (Nat.not_lt_zero _)
  | succ n ih => intro x2 M hI hm; exact h _ x2 M hI (fun x2' M' hI2 hlt => ih x2' M' hI2 (by omega))
def f_X1_gather (F : Nat) (a0 : Int32) (M : gM) : Option gM :=
  f_X1_gather_h2 F a0 F (0 : Int32) M
/-! X1_priceOfWorn -/
def f_X1_priceOfWorn_h5_b (F : Nat) (a0 : Int32) (a1 : Nat) (na1 : Nat) (M : gM) (k5 : Int32 → Int32 → Option Int32) (x3 : Int32) (x4 : Int32) : Option Int32 :=
  if (12 : Int32) ≤ x4 then
    some x3
  else
    ck (ib x4 12) <|
    (f_X8_sumOver F ((M 86 x4.toNatClampNeg) &&& a0) a1 na1 M).bind fun r1 =>
    lt_ (x3 + r1) fun v2 =>
    k5 v2 (x4 + (1 : Int32))
def f_X1_priceOfWorn_h5 (F : Nat) (a0 : Int32) (a1 : Nat) (na1 : Nat) (M : gM) : Nat → Int32 → Int32 → Option Int32
  | 0, _, _ => none
  | n + 1, x3, x4 => f_X1_priceOfWorn_h5_b F a0 a1 na1 M (f_X1_priceOfWorn_h5 F a0 a1 na1 M n) x3 x4
theorem f_X1_priceOfWorn_h5_spec (F : Nat) (a0 : Int32) (a1 : Nat) (na1 : Nat) (M : gM)  (I : Int32 → Int32 → Prop) (μ : Int32 → Int32 → Nat) (φ : Int32 → Int32 → Option Int32)
    (h : ∀ (self : Int32 → Int32 → Option Int32) (x3 : Int32) (x4 : Int32), I x3 x4 → (∀ (x3' : Int32) (x4' : Int32), I x3' x4' → μ x3' x4' < μ x3 x4 → self x3' x4' = φ x3' x4') → f_X1_priceOfWorn_h5_b F a0 a1 na1 M self x3 x4 = φ x3 x4) :
    ∀ (n : Nat) (x3 : Int32) (x4 : Int32), I x3 x4 → μ x3 x4 < n → f_X1_priceOfWorn_h5 F a0 a1 na1 M n x3 x4 = φ x3 x4 := by
  intro n
  induction n with
  | zero => intro x3 x4 _ hm; exact absurd hm (Nat.not_lt_zero _)
  | succ n ih => intro x3 x4 hI hm; exact h _ x3 x4 hI (fun x3' x4' hI2 hlt => ih x3' x4' hI2 (by omega))
def f_X1_priceOfWorn (F : Nat) (a0 : Int32) (a1 : Nat) (na1 : Nat) (M : gM) : Option Int32 :=
  f_X1_priceOfWorn_h5 F a0 a1 na1 M F (0 : Int32) (0 : Int32)
/-! X7_isOfKind -/
def f_X7_isOfKind (t : Nat) (a0 : Int32) (a1 : Int32) (M : gM) : Option Int32 :=
  (f_X7_hasPart t a0 M).bind fun r1 =>
  if r1 = 0 then
    some (0 : Int32)
  else
    ck (ib a0 10) <|
    if (M (rf t 0) a0.toNatClampNeg) = a1 then
      some (1 : Int32)
    else
      some (0 : Int32)
/-! X7_isClash -/
def f_X7_isClash (t : Nat) (a0 : Int32) (a1 : Int32) (M : gM) : Option Int32 :=
  (f_X7_hasPart t a0 M).bind fun r1 =>
  if r1 = 0 then
    some (0 : Int32)
  else
    ck (ib a0 10) <|
    (f_X8_has (M (rf t 6) a0.toNatClampNeg) a1 M).bind fun r2 =>
    if r2 = 0 then
      some (0 : Int32)
    else
      some (1 : Int32)
/-! X2_isLook -/
def f_X2_isLook (a0 : Int32) (a1 : Int32) (a2 : Int32) (M : gM) : Option Int32 :=
  (f_X7_isOfKind 3 a0 (0 : Int32) M).bind fun r1 =>
  if r1 = 0 then
    some (0 : Int32)
  else
    (f_X7_isOfKind 3 a1 (1 : Int32) M).bind fun r2 =>
    if r2 = 0 then
      some (0 : Int32)
    else
      (f_X7_isOfKind 3 a2 (2 : Int32) M).bind fun r3 =>
      if r3 = 0 then
        some (0 : Int32)
      else
        (f_X7_isClash 3 a0 a1 M).bind fun r4 =>
        if r4 = 0 then
          (f_X7_isClash 3 a0 a2 M).bind fun r5 =>
          if r5 = 0 then
            (f_X7_isClash 3 a1 a2 M).bind fun r6 =>
            if r6 = 0 then
              some (1 : Int32)
            else
              some (0 : Int32)
          else
            some (0 : Int32)
        else
          some (0 : Int32)
/-! X2_build -/
def f_X2_build_h33_b (F : Nat) (k7 : Int32 → gM → Option gM) (k20 : Int32 → Int32 → gM → Option gM) (k33 : Int32 → Int32 → Int32 → gM → Option gM) (x1 : Int32) (x2 : Int32) (x3 : Int32) (M : gM) : Option gM :=
  if (M 3 10) ≤ x3 then
    k20 x1 (x2 + (1 : Int32)) M
  else
    (f_X2_isLook x1 x2 x3 M).bind fun r2 =>
    if r2 = 0 then
      k33 x1 x2 (x3 + (1 : Int32)) M
    else
      if (36 : Int32) ≤ (M 39 5) then
        k33 x1 x2 (x3 + (1 : Int32)) M
      else
        ck (ib (M 39 5) 36) <|
        ltM (gst M 40 (M 39 5).toNatClampNeg x1) fun M3 =>
        ck (ib (M3 39 5) 36) <|
        ltM (gst M3 41 (M3 39 5).toNatClampNeg x2) fun M4 =>
        ck (ib (M4 39 5) 36) <|
        ltM (gst M4 42 (M4 39 5).toNatClampNeg x3) fun M5 =>
        ltM (gst M5 39 5 ((M5 39 5) + (1 : Int32))) fun M6 =>
        k33 x1 x2 (x3 + (1 : Int32)) M6
def f_X2_build_h33 (F : Nat) (k7 : Int32 → gM → Option gM) (k20 : Int32 → Int32 → gM → Option gM) : Nat → Int32 → Int32 → Int32 → gM → Option gM
  | 0, _, _, _, _ => none
  | n + 1, x1, x2, x3, M => f_X2_build_h33_b F k7 k20 (f_X2_build_h33 F k7 k20 n) x1 x2 x3 M
theorem f_X2_build_h33_spec (F : Nat) (k7 : Int32 → gM → Option gM) (k20 : Int32 → Int32 → gM → Option gM) (I : Int32 → Int32 → Int32 → gM → Prop) (μ : Int32 → Int32 → Int32 → gM → Nat) (φ : Int32 → Int32 → Int32 → gM → Option gM)
    (h : ∀ (self : Int32 → Int32 → Int32 → gM → Option gM) (x1 : Int32) (x2 : Int32) (x3 : Int32) (M : gM), I x1 x2 x3 M → (∀ (x1' : Int32) (x2' : Int32) (x3' : Int32) (M' : gM), I x1' x2' x3' M' → μ x1' x2' x3' M' < μ x1 x2 x3 M → self x1' x2' x3' M' = φ x1' x2' x3' M') → f_X2_build_h33_b F k7 k20 self x1 x2 x3 M = φ x1 x2 x3 M) :
    ∀ (n : Nat) (x1 : Int32) (x2 : Int32) (x3 : Int32) (M : gM), I x1 x2 x3 M → μ x1 x2 x3 M < n → f_X2_build_h33 F k7 k20 n x1 x2 x3 M = φ x1 x2 x3 M := by
  intro n
  induction n with
  | zero => intro x1 x2 x3 M _ hm; exact absurd hm (Nat.not_lt_zero _)
  | succ n ih => intro x1 x2 x3 M hI hm; exact h _ x1 x2 x3 M hI (fun x1' x2' x3' M' hI2 hlt => ih x1' x2' x3' M' hI2 (by omega))
def f_X2_build_h20_b (F : Nat) (k7 : Int32 → gM → Option gM) (k20 : Int32 → Int32 → gM → Option gM) (x1 : Int32) (x2 : Int32) (M : gM) : Option gM :=
  if (M 3 10) ≤ x2 then
    k7 (x1 + (1 : Int32)) M
  else
    f_X2_build_h33 F k7 k20 F x1 x2 (0 : Int32) M
def f_X2_build_h20 (F : Nat) (k7 : Int32 → gM → Option gM) : Nat → Int32 → Int32 → gM → Option gM
  | 0, _, _, _ => none
  | n + 1, x1, x2, M => f_X2_build_h20_b F k7 (f_X2_build_h20 F k7 n) x1 x2 M
theorem f_X2_build_h20_spec (F : Nat) (k7 : Int32 → gM → Option gM) (I : Int32 → Int32 → gM → Prop) (μ : Int32 → Int32 → gM → Nat) (φ : Int32 → Int32 → gM → Option gM)
    (h : ∀ (self : Int32 → Int32 → gM → Option gM) (x1 : Int32) (x2 : Int32) (M : gM), I x1 x2 M → (∀ (x1' : Int32) (x2' : Int32) (M' : gM), I x1' x2' M' → μ x1' x2' M' < μ x1 x2 M → self x1' x2' M' = φ x1' x2' M') → f_X2_build_h20_b F k7 self x1 x2 M = φ x1 x2 M) :
    ∀ (n : Nat) (x1 : Int32) (x2 : Int32) (M : gM), I x1 x2 M → μ x1 x2 M < n → f_X2_build_h20 F k7 n x1 x2 M = φ x1 x2 M := by
  intro n
  induction n with
  | zero => intro x1 x2 M _ hm; exact absurd hm (Nat.not_lt_zero _)
  | succ n ih => intro x1 x2 M hI hm; exact h _ x1 x2 M hI (fun x1' x2' M' hI2 hlt => ih x1' x2' M' hI2 (by omega))
def f_X2_build_h7_b (F : Nat) (k7 : Int32 → gM → Option gM) (x1 : Int32) (M : gM) : Option gM :=
  if (M 3 10) ≤ x1 then
    some M
  else
    f_X2_build_h20 F k7 F x1 (0 : Int32) M
def f_X2_build_h7 (F : Nat) : Nat → Int32 → gM → Option gM
  | 0, _, _ => none
  | n + 1, x1, M => f_X2_build_h7_b F (f_X2_build_h7 F n) x1 M
theorem f_X2_build_h7_spec (F : Nat)  (I : Int32 → gM → Prop) (μ : Int32 → gM → Nat) (φ : Int32 → gM → Option gM)
    (h : ∀ (self : Int32 → gM → Option gM) (x1 : Int32) (M : gM), I x1 M → (∀ (x1' : Int32) (M' : gM), I x1' M' → μ x1' M' < μ x1 M → self x1' M' = φ x1' M') → f_X2_build_h7_b F self x1 M = φ x1 M) :
    ∀ (n : Nat) (x1 : Int32) (M : gM), I x1 M → μ x1 M < n → f_X2_build_h7 F n x1 M = φ x1 M := by
  intro n
  induction n with
  | zero => intro x1 M _ hm; exact absurd hm (Nat.not_lt_zero _)
  | succ n ih => intro x1 M hI hm; exact h _ x1 M hI (fun x1' M' hI2 hlt => ih x1' M' hI2 (by omega))
def f_X2_build (F : Nat) (M : gM) : Option gM :=
  ltM (gst M 39 5 (0 : Int32)) fun M1 =>
  f_X2_build_h7 F F (0 : Int32) M1
/-! X2_priceOf -/
def f_X2_priceOf (a0 : Int32) (M : gM) : Option Int32 :=
  (f_X2_sumOf a0 28 10 M).bind fun r1 =>
  some r1
/-! X2_cheapestFor -/
def f_X2_cheapestFor_h35_b (F : Nat) (a0 : Int32) (M : gM) (k35 : Int32 → Int32 → Int32 → Option Int32) (x2 : Int32) (x3 : Int32) (x4 : Int32) : Option Int32 :=
  if (M 39 5) ≤ x4 then
    some x3
  else
    (f_X2_isFor x4 a0 x2 M).bind fun r3 =>
    if r3 = 0 then
      k35 x2 x3 (x4 + (1 : Int32))
    else
      if x3 = (-1 : Int32) then
        k35 x2 x4 (x4 + (1 : Int32))
      else
        (f_X2_priceOf x4 M).bind fun r4 =>
        (f_X2_priceOf x3 M).bind fun r5 =>
        if r5 ≤ r4 then
          k35 x2 x3 (x4 + (1 : Int32))
        else
          k35 x2 x4 (x4 + (1 : Int32))
def f_X2_cheapestFor_h35 (F : Nat) (a0 : Int32) (M : gM) : Nat → Int32 → Int32 → Int32 → Option Int32
  | 0, _, _, _ => none
  | n + 1, x2, x3, x4 => f_X2_cheapestFor_h35_b F a0 M (f_X2_cheapestFor_h35 F a0 M n) x2 x3 x4
theorem f_X2_cheapestFor_h35_spec (F : Nat) (a0 : Int32) (M : gM)  (I : Int32 → Int32 → Int32 → Prop) (μ : Int32 → Int32 → Int32 → Nat) (φ : Int32 → Int32 → Int32 → Option Int32)
    (h : ∀ (self : Int32 → Int32 → Int32 → Option Int32) (x2 : Int32) (x3 : Int32) (x4 : Int32), I x2 x3 x4 → (∀ (x2' : Int32) (x3' : Int32) (x4' : Int32), I x2' x3' x4' → μ x2' x3' x4' < μ x2 x3 x4 → self x2' x3' x4' = φ x2' x3' x4') → f_X2_cheapestFor_h35_b F a0 M self x2 x3 x4 = φ x2 x3 x4) :
    ∀ (n : Nat) (x2 : Int32) (x3 : Int32) (x4 : Int32), I x2 x3 x4 → μ x2 x3 x4 < n → f_X2_cheapestFor_h35 F a0 M n x2 x3 x4 = φ x2 x3 x4 := by
  intro n
  induction n with
  | zero => intro x2 x3 x4 _ hm; exact absurd hm (Nat.not_lt_zero _)
  | succ n ih => intro x2 x3 x4 hI hm; exact h _ x2 x3 x4 hI (fun x2' x3' x4' hI2 hlt => ih x2' x3' x4' hI2 (by omega))
def f_X2_cheapestFor (F : Nat) (a0 : Int32) (M : gM) : Option Int32 :=
  (f_X7_hasScene 3 a0 M).bind fun r1 =>
  if r1 = 0 then
    some (-1 : Int32)
  else
    ck (ib a0 8) <|
    (f_X7_freeIn F 3 (M 11 a0.toNatClampNeg) M).bind fun r2 =>
    f_X2_cheapestFor_h35 F a0 M F r2 (-1 : Int32) (0 : Int32)
/-! X2_widthOf -/
def f_X2_widthOf (a0 : Int32) (M : gM) : Option Int32 :=
  (f_X2_sumOf a0 27 10 M).bind fun r1 =>
  some r1
/-! X2_mayMarry -/
def f_X2_mayMarry (a0 : Int32) (a1 : Int32) (a2 : Int32) (M : gM) : Option Int32 :=
  (f_X2_partsOf a0 M).bind fun r1 =>
  (f_X2_partsOf a1 M).bind fun r2 =>
  if ((r1 ||| r2) &&& (a2 ^^^ (-1 : Int32))) = 0 then
    if (r1 &&& r2) = 0 then
      (f_X2_widthOf a0 M).bind fun r3 =>
      (f_X2_widthOf a1 M).bind fun r4 =>
      if r3 = r4 then
        some (1 : Int32)
      else
        some (0 : Int32)
    else
      some (0 : Int32)
  else
    some (0 : Int32)
/-! X2_widthsIf -/
def f_X2_widthsIf_b62 (F : Nat) (a0 : Int32) (a1 : Int32) (M : gM) (k5 : Int32 → Int32 → Option Int32) (x3 : Int32) (x4 : Int32) (x5 : Int32) : Option Int32 :=
  lt_ (x3 ||| ((1 : Int32) <<< (x5 &&& 31))) fun v3 =>
  k5 v3 (x4 + (1 : Int32))
def f_X2_widthsIf_h5_b (F : Nat) (a0 : Int32) (a1 : Int32) (M : gM) (k5 : Int32 → Int32 → Option Int32) (x3 : Int32) (x4 : Int32) : Option Int32 :=
  if (M 39 5) ≤ x4 then
    some x3
  else
    (f_X2_widthOf x4 M).bind fun r1 =>
    (f_X7_hasPart 3 a0 M).bind fun r2 =>
    if r2 = 0 then
      f_X2_widthsIf_b62 F a0 a1 M k5 x3 x4 r1
    else
      (f_X2_partsOf x4 M).bind fun r4 =>
      (f_X8_has r4 a0 M).bind fun r5 =>
      if r5 = 0 then
        f_X2_widthsIf_b62 F a0 a1 M k5 x3 x4 r1
      else
        ck (ib a0 10) <|
        lt_ (r1 + (a1 - (M 27 a0.toNatClampNeg))) fun v6 =>
        f_X2_widthsIf_b62 F a0 a1 M k5 x3 x4 v6
def f_X2_widthsIf_h5 (F : Nat) (a0 : Int32) (a1 : Int32) (M : gM) : Nat → Int32 → Int32 → Option Int32
  | 0, _, _ => none
  | n + 1, x3, x4 => f_X2_widthsIf_h5_b F a0 a1 M (f_X2_widthsIf_h5 F a0 a1 M n) x3 x4
theorem f_X2_widthsIf_h5_spec (F : Nat) (a0 : Int32) (a1 : Int32) (M : gM)  (I : Int32 → Int32 → Prop) (μ : Int32 → Int32 → Nat) (φ : Int32 → Int32 → Option Int32)
    (h : ∀ (self : Int32 → Int32 → Option Int32) (x3 : Int32) (x4 : Int32), I x3 x4 → (∀ (x3' : Int32) (x4' : Int32), I x3' x4' → μ x3' x4' < μ x3 x4 → self x3' x4' = φ x3' x4') → f_X2_widthsIf_h5_b F a0 a1 M self x3 x4 = φ x3 x4) :
    ∀ (n : Nat) (x3 : Int32) (x4 : Int32), I x3 x4 → μ x3 x4 < n → f_X2_widthsIf_h5 F a0 a1 M n x3 x4 = φ x3 x4 := by
  intro n
  induction n with
  | zero => intro x3 x4 _ hm; exact absurd hm (Nat.not_lt_zero _)
  | succ n ih => intro x3 x4 hI hm; exact h _ x3 x4 hI (fun x3' x4' hI2 hlt => ih x3' x4' hI2 (by omega))
def f_X2_widthsIf (F : Nat) (a0 : Int32) (a1 : Int32) (M : gM) : Option Int32 :=
  f_X2_widthsIf_h5 F a0 a1 M F (0 : Int32) (0 : Int32)
/-! X3_fail -/
def f_X3_fail (a0 : Int32) (a1 : Int32) (M : gM) : Option gM :=
  if (M 25 4) = 0 then
    ltM (gst M 25 4 a0) fun M1 =>
    ltM (gst M1 25 5 a1) fun M2 =>
    some M2
  else
    some M
/-! X6_byteAt -/
def f_X6_byteAt (a0 : Int32) (M : gM) : Option Int32 :=
  if a0 < 0 then
    some (-1 : Int32)
  else
    if (M 1 1) ≤ a0 then
      some (-1 : Int32)
    else
      ck (ib a0 400) <|
      some (M 2 a0.toNatClampNeg)
/-! X3_skipBlanks -/
def f_X3_skipBlanks_h0_b (F : Nat) (k0 : gM → Option gM) (M : gM) : Option gM :=
  if (M 1 1) ≤ (M 25 2) then
    some M
  else
    (f_X6_byteAt (M 25 2) M).bind fun r1 =>
    if r1 = (32 : Int32) then
      ltM (gst M 25 2 ((M 25 2) + (1 : Int32))) fun M2 =>
      k0 M2
    else
      some M
def f_X3_skipBlanks_h0 (F : Nat) : Nat → gM → Option gM
  | 0, _ => none
  | n + 1, M => f_X3_skipBlanks_h0_b F (f_X3_skipBlanks_h0 F n) M
theorem f_X3_skipBlanks_h0_spec (F : Nat)  (I : gM → Prop) (μ : gM → Nat) (φ : gM → Option gM)
    (h : ∀ (self : gM → Option gM) (M : gM), I M → (∀ (M' : gM), I M' → μ M' < μ M → self M' = φ M') → f_X3_skipBlanks_h0_b F self M = φ M) :
    ∀ (n : Nat) (M : gM), I M → μ M < n → f_X3_skipBlanks_h0 F n M = φ M := by
  intro n
  induction n with
  | zero => intro M _ hm; exact absurd hm (Nat.not_lt_zero _)
  | succ n ih => intro M hI hm; exact h _ M hI (fun M' hI2 hlt => ih M' hI2 (by omega))
def f_X3_skipBlanks (F : Nat) (M : gM) : Option gM :=
  f_X3_skipBlanks_h0 F F M
/-! X6_isFigure -/
def f_X6_isFigure (a0 : Int32) (M : gM) : Option Int32 :=
  (f_X6_byteAt a0 M).bind fun r1 =>
  if r1 < (48 : Int32) then
    some (0 : Int32)
  else
    if (57 : Int32) < r1 then
      some (0 : Int32)
    else
      some (1 : Int32)
/-! X3_readNumber -/
def f_X3_readNumber_b138 (F : Nat) (a0 : Int32) (x2 : Int32) (M : gM) : Option (Int32 × gM) :=
  (f_X3_fail (2 : Int32) (M 25 3) M).bind fun r3 =>
  some (x2, r3)
def f_X3_readNumber_b97 (F : Nat) (a0 : Int32) (x2 : Int32) (M : gM) : Option (Int32 × gM) :=
  if (M 25 2) = (M 25 3) then
    (f_X3_fail (1 : Int32) (M 25 3) M).bind fun r4 =>
    some (x2, r4)
  else
    if (3 : Int32) < ((M 25 2) - (M 25 3)) then
      f_X3_readNumber_b138 F a0 x2 M
    else
      if x2 ≤ a0 then
        some (x2, M)
      else
        f_X3_readNumber_b138 F a0 x2 M
def f_X3_readNumber_b84 (F : Nat) (a0 : Int32) (k23 : Int32 → gM → Option (Int32 × gM)) (x2 : Int32) (M : gM) : Option (Int32 × gM) :=
  ltM (gst M 25 2 ((M 25 2) + (1 : Int32))) fun M6 =>
  k23 x2 M6
def f_X3_readNumber_h23_b (F : Nat) (a0 : Int32) (k23 : Int32 → gM → Option (Int32 × gM)) (x2 : Int32) (M : gM) : Option (Int32 × gM) :=
  if (M 1 1) ≤ (M 25 2) then
    f_X3_readNumber_b97 F a0 x2 M
  else
    (f_X6_isFigure (M 25 2) M).bind fun r5 =>
    if r5 = 0 then
      f_X3_readNumber_b97 F a0 x2 M
    else
      if (3 : Int32) ≤ ((M 25 2) - (M 25 3)) then
        f_X3_readNumber_b84 F a0 k23 x2 M
      else
        (f_X6_byteAt (M 25 2) M).bind fun r7 =>
        lt_ (((x2 * (10 : Int32)) + r7) - (48 : Int32)) fun v8 =>
        f_X3_readNumber_b84 F a0 k23 v8 M
def f_X3_readNumber_h23 (F : Nat) (a0 : Int32) : Nat → Int32 → gM → Option (Int32 × gM)
  | 0, _, _ => none
  | n + 1, x2, M => f_X3_readNumber_h23_b F a0 (f_X3_readNumber_h23 F a0 n) x2 M
theorem f_X3_readNumber_h23_spec (F : Nat) (a0 : Int32)  (I : Int32 → gM → Prop) (μ : Int32 → gM → Nat) (φ : Int32 → gM → Option (Int32 × gM))
    (h : ∀ (self : Int32 → gM → Option (Int32 × gM)) (x2 : Int32) (M : gM), I x2 M → (∀ (x2' : Int32) (M' : gM), I x2' M' → μ x2' M' < μ x2 M → self x2' M' = φ x2' M') → f_X3_readNumber_h23_b F a0 self x2 M = φ x2 M) :
    ∀ (n : Nat) (x2 : Int32) (M : gM), I x2 M → μ x2 M < n → f_X3_readNumber_h23 F a0 n x2 M = φ x2 M := by
  intro n
  induction n with
  | zero => intro x2 M _ hm; exact absurd hm (Nat.not_lt_zero _)
  | succ n ih => intro x2 M hI hm; exact h _ x2 M hI (fun x2' M' hI2 hlt => ih x2' M' hI2 (by omega))
def f_X3_readNumber (F : Nat) (a0 : Int32) (M : gM) : Option (Int32 × gM) :=
  if (M 25 4) = 0 then
    (f_X3_skipBlanks F M).bind fun r1 =>
    ltM (gst r1 25 3 (r1 25 2)) fun M2 =>
    f_X3_readNumber_h23 F a0 F (0 : Int32) M2
  else
    some ((0 : Int32), M)
/-! X3_readEnd -/
def f_X3_readEnd (F : Nat) (M : gM) : Option gM :=
  if (M 25 4) = 0 then
    (f_X3_skipBlanks F M).bind fun r1 =>
    (f_X6_byteAt (r1 25 2) r1).bind fun r2 =>
    if r2 = (59 : Int32) then
      ltM (gst r1 25 2 ((r1 25 2) + (1 : Int32))) fun M4 =>
      some M4
    else
      (f_X3_fail (1 : Int32) (r1 25 2) r1).bind fun r3 =>
      some r3
  else
    some M
/-! X7_addClash -/
def f_X7_addClash (t : Nat) (a0 : Int32) (a1 : Int32) (M : gM) : Option gM :=
  (f_X7_hasPart t a0 M).bind fun r1 =>
  if r1 = 0 then
    some M
  else
    (f_X7_hasPart t a1 M).bind fun r2 =>
    if r2 = 0 then
      some M
    else
      ck (ib a0 10) <|
      ck (ib a0 10) <|
      ltM (gst M (rf t 6) a0.toNatClampNeg ((M (rf t 6) a0.toNatClampNeg) ||| ((1 : Int32) <<< (a1 &&& 31)))) fun M3 =>
      ck (ib a1 10) <|
      ck (ib a1 10) <|
      ltM (gst M3 (rf t 6) a1.toNatClampNeg ((M3 (rf t 6) a1.toNatClampNeg) ||| ((1 : Int32) <<< (a0 &&& 31)))) fun M4 =>
      ltM (gst M4 t 11 ((M4 t 11) + (1 : Int32))) fun M5 =>
      some M5
/-! X3_readClash -/
def f_X3_readClash_b75 (F : Nat) (x1 : Int32) (x2 : Int32) (M : gM) : Option gM :=
  (f_X3_readEnd F M).bind fun r6 =>
  if (r6 25 4) = 0 then
    (f_X7_addClash 14 x1 x2 r6).bind fun r7 =>
    some r7
  else
    some r6
def f_X3_readClash_b66 (F : Nat) (x1 : Int32) (x2 : Int32) (M : gM) : Option gM :=
  (f_X3_fail (4 : Int32) (M 25 3) M).bind fun r5 =>
  f_X3_readClash_b75 F x1 x2 r5
def f_X3_readClash_b21 (F : Nat) (M : gM) : Option gM :=
  (f_X3_readNumber F ((M 14 10) - (1 : Int32)) M).bind fun r1 =>
  lt_ r1.1 fun v2 =>
  (f_X3_readNumber F ((r1.2 14 10) - (1 : Int32)) r1.2).bind fun r3 =>
  lt_ r3.1 fun v4 =>
  if v2 = v4 then
    f_X3_readClash_b66 F v2 v4 r3.2
  else
    (f_X7_isClash 14 v2 v4 r3.2).bind fun r8 =>
    if r8 = 0 then
      f_X3_readClash_b75 F v2 v4 r3.2
    else
      f_X3_readClash_b66 F v2 v4 r3.2
def f_X3_readClash (F : Nat) (M : gM) : Option gM :=
  if (M 14 11) < (15 : Int32) then
    f_X3_readClash_b21 F M
  else
    (f_X3_fail (3 : Int32) (M 25 3) M).bind fun r9 =>
    f_X3_readClash_b21 F r9
/-! X6_isLetter -/
def f_X6_isLetter (a0 : Int32) (M : gM) : Option Int32 :=
  (f_X6_byteAt a0 M).bind fun r1 =>
  if r1 < (97 : Int32) then
    some (0 : Int32)
  else
    if (122 : Int32) < r1 then
      some (0 : Int32)
    else
      some (1 : Int32)
/-! X3_readWord -/
def f_X3_readWord_h12_b (F : Nat) (k12 : gM → Option gM) (M : gM) : Option gM :=
  if (M 1 1) ≤ (M 25 2) then
    some M
  else
    (f_X6_isLetter (M 25 2) M).bind fun r3 =>
    if r3 = 0 then
      some M
    else
      ltM (gst M 25 2 ((M 25 2) + (1 : Int32))) fun M4 =>
      k12 M4
def f_X3_readWord_h12 (F : Nat) : Nat → gM → Option gM
  | 0, _ => none
  | n + 1, M => f_X3_readWord_h12_b F (f_X3_readWord_h12 F n) M
theorem f_X3_readWord_h12_spec (F : Nat)  (I : gM → Prop) (μ : gM → Nat) (φ : gM → Option gM)
    (h : ∀ (self : gM → Option gM) (M : gM), I M → (∀ (M' : gM), I M' → μ M' < μ M → self M' = φ M') → f_X3_readWord_h12_b F self M = φ M) :
    ∀ (n : Nat) (M : gM), I M → μ M < n → f_X3_readWord_h12 F n M = φ M := by
  intro n
  induction n with
  | zero => intro M _ hm; exact absurd hm (Nat.not_lt_zero _)
  | succ n ih => intro M hI hm; exact h _ M hI (fun M' hI2 hlt => ih M' hI2 (by omega))
def f_X3_readWord (F : Nat) (M : gM) : Option gM :=
  (f_X3_skipBlanks F M).bind fun r1 =>
  ltM (gst r1 25 3 (r1 25 2)) fun M2 =>
  f_X3_readWord_h12 F F M2
/-! X6_stands -/
def f_X6_stands_h15_b (F : Nat) (a0 : Nat) (a1 : Int32) (a2 : Int32) (M : gM) (k15 : Int32 → Option Int32) (x4 : Int32) : Option Int32 :=
  if (slen a0) ≤ x4 then
    some (1 : Int32)
  else
    (f_X6_byteAt (a1 + x4) M).bind fun r1 =>
    ck (ib x4 (gLen.getD a0 0)) <|
    if r1 = (schar a0 x4) then
      k15 (x4 + (1 : Int32))
    else
      some (0 : Int32)
def f_X6_stands_h15 (F : Nat) (a0 : Nat) (a1 : Int32) (a2 : Int32) (M : gM) : Nat → Int32 → Option Int32
  | 0, _ => none
  | n + 1, x4 => f_X6_stands_h15_b F a0 a1 a2 M (f_X6_stands_h15 F a0 a1 a2 M n) x4
theorem f_X6_stands_h15_spec (F : Nat) (a0 : Nat) (a1 : Int32) (a2 : Int32) (M : gM)  (I : Int32 → Prop) (μ : Int32 → Nat) (φ : Int32 → Option Int32)
    (h : ∀ (self : Int32 → Option Int32) (x4 : Int32), I x4 → (∀ (x4' : Int32), I x4' → μ x4' < μ x4 → self x4' = φ x4') → f_X6_stands_h15_b F a0 a1 a2 M self x4 = φ x4) :
    ∀ (n : Nat) (x4 : Int32), I x4 → μ x4 < n → f_X6_stands_h15 F a0 a1 a2 M n x4 = φ x4 := by
  intro n
  induction n with
  | zero => intro x4 _ hm; exact absurd hm (Nat.not_lt_zero _)
  | succ n ih => intro x4 hI hm; exact h _ x4 hI (fun x4' hI2 hlt => ih x4' hI2 (by omega))
def f_X6_stands (F : Nat) (a0 : Nat) (a1 : Int32) (a2 : Int32) (M : gM) : Option Int32 :=
  if (slen a0) = (a2 - a1) then
    f_X6_stands_h15 F a0 a1 a2 M F (0 : Int32)
  else
    some (0 : Int32)
/-! X3_readKind -/
def f_X3_readKind (F : Nat) (M : gM) : Option (Int32 × gM) :=
  if (M 25 4) = 0 then
    (f_X3_readWord F M).bind fun r1 =>
    (f_X6_stands F 3 (r1 25 3) (r1 25 2) r1).bind fun r2 =>
    if r2 = 0 then
      (f_X6_stands F 4 (r1 25 3) (r1 25 2) r1).bind fun r3 =>
      if r3 = 0 then
        (f_X6_stands F 5 (r1 25 3) (r1 25 2) r1).bind fun r4 =>
        if r4 = 0 then
          (f_X3_fail (1 : Int32) (r1 25 3) r1).bind fun r5 =>
          some ((0 : Int32), r5)
        else
          some ((2 : Int32), r1)
      else
        some ((1 : Int32), r1)
    else
      some ((0 : Int32), r1)
  else
    some ((0 : Int32), M)
/-! X7_addPart -/
def f_X7_addPart (t : Nat) (a0 : Int32) (a1 : Int32) (a2 : Int32) (a3 : Int32) (M : gM) : Option gM :=
  if (10 : Int32) ≤ (M t 10) then
    some M
  else
    ck (ib (M t 10) 10) <|
    ltM (gst M (rf t 0) (M t 10).toNatClampNeg a0) fun M1 =>
    ck (ib (M1 t 10) 10) <|
    ltM (gst M1 (rf t 1) (M1 t 10).toNatClampNeg a1) fun M2 =>
    ck (ib (M2 t 10) 10) <|
    ltM (gst M2 (rf t 2) (M2 t 10).toNatClampNeg a2) fun M3 =>
    ck (ib (M3 t 10) 10) <|
    ltM (gst M3 (rf t 3) (M3 t 10).toNatClampNeg a3) fun M4 =>
    ck (ib (M4 t 10) 10) <|
    ltM (gst M4 (rf t 6) (M4 t 10).toNatClampNeg (0 : Int32)) fun M5 =>
    ltM (gst M5 t 10 ((M5 t 10) + (1 : Int32))) fun M6 =>
    some M6
/-! X7_setHoursOfLatest -/
def f_X7_setHoursOfLatest (t : Nat) (a0 : Int32) (a1 : Int32) (M : gM) : Option gM :=
  (f_X7_hasPart t ((M t 10) - (1 : Int32)) M).bind fun r1 =>
  if r1 = 0 then
    some M
  else
    ck (ib ((M t 10) - (1 : Int32)) 10) <|
    ltM (gst M (rf t 4) ((M t 10) - (1 : Int32)).toNatClampNeg a0) fun M2 =>
    ck (ib ((M2 t 10) - (1 : Int32)) 10) <|
    ltM (gst M2 (rf t 5) ((M2 t 10) - (1 : Int32)).toNatClampNeg a1) fun M3 =>
    some M3
/-! X3_readPart -/
def f_X3_readPart_b79 (F : Nat) (x1 : Int32) (x2 : Int32) (x3 : Int32) (x4 : Int32) (x5 : Int32) (x6 : Int32) (M : gM) : Option gM :=
  (f_X3_readEnd F M).bind fun r13 =>
  if (r13 25 4) = 0 then
    (f_X7_addPart 14 x1 x2 x3 x4 r13).bind fun r14 =>
    (f_X7_setHoursOfLatest 14 x5 x6 r14).bind fun r15 =>
    some r15
  else
    some r13
def f_X3_readPart_b21 (F : Nat) (M : gM) : Option gM :=
  (f_X3_readKind F M).bind fun r1 =>
  lt_ r1.1 fun v2 =>
  (f_X3_readNumber F (3 : Int32) r1.2).bind fun r3 =>
  lt_ r3.1 fun v4 =>
  (f_X3_readNumber F (9 : Int32) r3.2).bind fun r5 =>
  lt_ r5.1 fun v6 =>
  (f_X3_readNumber F (99 : Int32) r5.2).bind fun r7 =>
  lt_ r7.1 fun v8 =>
  (f_X3_readNumber F (11 : Int32) r7.2).bind fun r9 =>
  lt_ r9.1 fun v10 =>
  (f_X3_readNumber F (11 : Int32) r9.2).bind fun r11 =>
  lt_ r11.1 fun v12 =>
  if v10 ≤ v12 then
    f_X3_readPart_b79 F v2 v4 v6 v8 v10 v12 r11.2
  else
    (f_X3_fail (4 : Int32) (r11.2 25 3) r11.2).bind fun r16 =>
    f_X3_readPart_b79 F v2 v4 v6 v8 v10 v12 r16
def f_X3_readPart (F : Nat) (M : gM) : Option gM :=
  if (M 14 10) < (10 : Int32) then
    f_X3_readPart_b21 F M
  else
    (f_X3_fail (3 : Int32) (M 25 3) M).bind fun r17 =>
    f_X3_readPart_b21 F r17
/-! X7_addScene -/
def f_X7_addScene (t : Nat) (a0 : Int32) (a1 : Int32) (a2 : Int32) (M : gM) : Option gM :=
  if (8 : Int32) ≤ (M t 12) then
    some M
  else
    ck (ib (M t 12) 8) <|
    ltM (gst M (rf t 7) (M t 12).toNatClampNeg a0) fun M1 =>
    ck (ib (M1 t 12) 8) <|
    ltM (gst M1 (rf t 8) (M1 t 12).toNatClampNeg a1) fun M2 =>
    ck (ib (M2 t 12) 8) <|
    ltM (gst M2 (rf t 9) (M2 t 12).toNatClampNeg a2) fun M3 =>
    ltM (gst M3 t 12 ((M3 t 12) + (1 : Int32))) fun M4 =>
    some M4
/-! X3_readScene -/
def f_X3_readScene_b56 (F : Nat) (x1 : Int32) (x2 : Int32) (x3 : Int32) (M : gM) : Option gM :=
  (f_X3_readEnd F M).bind fun r7 =>
  if (r7 25 4) = 0 then
    (f_X7_addScene 14 x1 x2 x3 r7).bind fun r8 =>
    some r8
  else
    some r7
def f_X3_readScene_b21 (F : Nat) (M : gM) : Option gM :=
  (f_X3_readNumber F (11 : Int32) M).bind fun r1 =>
  lt_ r1.1 fun v2 =>
  (f_X3_readNumber F (27 : Int32) r1.2).bind fun r3 =>
  lt_ r3.1 fun v4 =>
  (f_X3_readNumber F (27 : Int32) r3.2).bind fun r5 =>
  lt_ r5.1 fun v6 =>
  if v4 ≤ v6 then
    f_X3_readScene_b56 F v2 v4 v6 r5.2
  else
    (f_X3_fail (4 : Int32) (r5.2 25 3) r5.2).bind fun r9 =>
    f_X3_readScene_b56 F v2 v4 v6 r9
def f_X3_readScene (F : Nat) (M : gM) : Option gM :=
  if (M 14 12) < (8 : Int32) then
    f_X3_readScene_b21 F M
  else
    (f_X3_fail (3 : Int32) (M 25 3) M).bind fun r10 =>
    f_X3_readScene_b21 F r10
/-! X7_clear -/
def f_X7_clear (t : Nat) (M : gM) : Option gM :=
  ltM (gst M t 10 (0 : Int32)) fun M1 =>
  ltM (gst M1 t 11 (0 : Int32)) fun M2 =>
  ltM (gst M2 t 12 (0 : Int32)) fun M3 =>
  some M3
