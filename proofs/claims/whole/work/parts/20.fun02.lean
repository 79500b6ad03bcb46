/-! X9_canRest -/
def f_X9_canRest_h37_b (F : Nat) (a0 : Int32) (a1 : Int32) (a2 : Int32) (k37 : Int32 → gM → Option (Int32 × gM)) (x4 : Int32) (M : gM) : Option (Int32 × gM) :=
  ck (ib (1 : Int32) 8) <|
  if (M 108 (1 : Int32).toNatClampNeg) ≤ x4 then
    ck (ib a2 1024) <|
    ck (gb (M 114 a2.toNatClampNeg)) (some (M 114 a2.toNatClampNeg, M))
  else
    ck (ib x4 16) <|
    if (M 105 x4.toNatClampNeg) = a1 then
      (f_X9_addScene F (0 : Int32) x4 M).bind fun r1 =>
      k37 (x4 + (1 : Int32)) r1
    else
      k37 (x4 + (1 : Int32)) M
def f_X9_canRest_h37 (F : Nat) (a0 : Int32) (a1 : Int32) (a2 : Int32) : Nat → Int32 → gM → Option (Int32 × gM)
  | 0, _, _ => none
  | n + 1, x4, M => f_X9_canRest_h37_b F a0 a1 a2 (f_X9_canRest_h37 F a0 a1 a2 n) x4 M
theorem f_X9_canRest_h37_spec (F : Nat) (a0 : Int32) (a1 : Int32) (a2 : Int32)  (I : Int32 → gM → Prop) (μ : Int32 → gM → Nat) (φ : Int32 → gM → Option (Int32 × gM))
    (h : ∀ (self : Int32 → gM → Option (Int32 × gM)) (x4 : Int32) (M : gM), I x4 M → (∀ (x4' : Int32) (M' : gM), I x4' M' → μ x4' M' < μ x4 M → self x4' M' = φ x4' M') → f_X9_canRest_h37_b F a0 a1 a2 self x4 M = φ x4 M) :
    ∀ (n : Nat) (x4 : Int32) (M : gM), I x4 M → μ x4 M < n → f_X9_canRest_h37 F a0 a1 a2 n x4 M = φ x4 M := by
  intro n
  induction n with
  | zero => intro x4 M _ hm; exact absurd hm (Nat.not_lt_zero _)
  | succ n ih => intro x4 M hI hm; exact h _ x4 M hI (fun x4' M' hI2 hlt => ih x4' M' hI2 (by omega))
def f_X9_canRest_h3_b (F : Nat) (a0 : Int32) (a1 : Int32) (a2 : Int32) (k3 : Int32 → gM → Option (Int32 × gM)) (x4 : Int32) (M : gM) : Option (Int32 × gM) :=
  if (1024 : Int32) ≤ x4 then
    f_X9_canRest_h37 F a0 a1 a2 F a0 M
  else
    if x4 = 0 then
      ck (ib x4 1024) <|
      ltM (gst M 114 x4.toNatClampNeg ((1 : Int32) &&& 1)) fun M3 =>
      k3 (x4 + (1 : Int32)) M3
    else
      ck (ib x4 1024) <|
      ltM (gst M 114 x4.toNatClampNeg ((0 : Int32) &&& 1)) fun M2 =>
      k3 (x4 + (1 : Int32)) M2
def f_X9_canRest_h3 (F : Nat) (a0 : Int32) (a1 : Int32) (a2 : Int32) : Nat → Int32 → gM → Option (Int32 × gM)
  | 0, _, _ => none
  | n + 1, x4, M => f_X9_canRest_h3_b F a0 a1 a2 (f_X9_canRest_h3 F a0 a1 a2 n) x4 M
theorem f_X9_canRest_h3_spec (F : Nat) (a0 : Int32) (a1 : Int32) (a2 : Int32)  (I : Int32 → gM → Prop) (μ : Int32 → gM → Nat) (φ : Int32 → gM → Option (Int32 × gM))
    (h : ∀ (self : Int32 → gM → Option (Int32 × gM)) (x4 : Int32) (M : gM), I x4 M → (∀ (x4' : Int32) (M' : gM), I x4' M' → μ x4' M' < μ x4 M → self x4' M' = φ x4' M') → f_X9_canRest_h3_b F a0 a1 a2 self x4 M = φ x4 M) :
    ∀ (n : Nat) (x4 : Int32) (M : gM), I x4 M → μ x4 M < n → f_X9_canRest_h3 F a0 a1 a2 n x4 M = φ x4 M := by
  intro n
  induction n with
  | zero => intro x4 M _ hm; exact absurd hm (Nat.not_lt_zero _)
  | succ n ih => intro x4 M hI hm; exact h _ x4 M hI (fun x4' M' hI2 hlt => ih x4' M' hI2 (by omega))
def f_X9_canRest (F : Nat) (a0 : Int32) (a1 : Int32) (a2 : Int32) (M : gM) : Option (Int32 × gM) :=
  f_X9_canRest_h3 F a0 a1 a2 F (0 : Int32) M
/-! X9_isScene -/
def f_X9_isScene (a0 : Int32) (M : gM) : Option Int32 :=
  ck (ib (1 : Int32) 8) <|
  (f_X9_in a0.toInt64 (0 : Int64) (((M 108 (1 : Int32).toNatClampNeg) - (1 : Int32)).toInt64) M).bind fun r1 =>
  ck (gb r1) (some r1)
/-! X9_cheapest -/
def f_X9_cheapest_h29_b (F : Nat) (a0 : Int32) (a1 : Int32) (M : gM) (k29 : Int32 → Int32 → Option Int32) (x3 : Int32) (x4 : Int32) : Option Int32 :=
  if (M 95 21) ≤ x4 then
    if 0 ≤ x3 then
      if a1 = 0 then
        ck (ib x3 64) <|
        some (M 110 x3.toNatClampNeg)
      else
        ck (ib x3 64) <|
        (f_X9_sumOf F (10 : Int32) (M 110 x3.toNatClampNeg) M).bind fun r3 =>
        some r3
    else
      some (-1 : Int32)
  else
    ck (ib x4 64) <|
    (f_X9_isFor F (0 : Int32) (M 110 x4.toNatClampNeg) a0 M).bind fun r4 =>
    if r4 = 0 then
      k29 x3 (x4 + (1 : Int32))
    else
      if x3 < 0 then
        k29 x4 (x4 + (1 : Int32))
      else
        ck (ib x4 64) <|
        (f_X9_sumOf F (10 : Int32) (M 110 x4.toNatClampNeg) M).bind fun r5 =>
        ck (ib x3 64) <|
        (f_X9_sumOf F (10 : Int32) (M 110 x3.toNatClampNeg) M).bind fun r6 =>
        if r6 ≤ r5 then
          k29 x3 (x4 + (1 : Int32))
        else
          k29 x4 (x4 + (1 : Int32))
def f_X9_cheapest_h29 (F : Nat) (a0 : Int32) (a1 : Int32) (M : gM) : Nat → Int32 → Int32 → Option Int32
  | 0, _, _ => none
  | n + 1, x3, x4 => f_X9_cheapest_h29_b F a0 a1 M (f_X9_cheapest_h29 F a0 a1 M n) x3 x4
theorem f_X9_cheapest_h29_spec (F : Nat) (a0 : Int32) (a1 : Int32) (M : gM)  (I : Int32 → Int32 → Prop) (μ : Int32 → Int32 → Nat) (φ : Int32 → Int32 → Option Int32)
    (h : ∀ (self : Int32 → Int32 → Option Int32) (x3 : Int32) (x4 : Int32), I x3 x4 → (∀ (x3' : Int32) (x4' : Int32), I x3' x4' → μ x3' x4' < μ x3 x4 → self x3' x4' = φ x3' x4') → f_X9_cheapest_h29_b F a0 a1 M self x3 x4 = φ x3 x4) :
    ∀ (n : Nat) (x3 : Int32) (x4 : Int32), I x3 x4 → μ x3 x4 < n → f_X9_cheapest_h29 F a0 a1 M n x3 x4 = φ x3 x4 := by
  intro n
  induction n with
  | zero => intro x3 x4 _ hm; exact absurd hm (Nat.not_lt_zero _)
  | succ n ih => intro x3 x4 hI hm; exact h _ x3 x4 hI (fun x3' x4' hI2 hlt => ih x3' x4' hI2 (by omega))
def f_X9_cheapest (F : Nat) (a0 : Int32) (a1 : Int32) (M : gM) : Option Int32 :=
  (f_X9_isScene a0 M).bind fun r1 =>
  if r1 = 0 then
    some (-1000000001 : Int32)
  else
    (f_X9_in a1.toInt64 (0 : Int64) (1 : Int64) M).bind fun r2 =>
    if r2 = 0 then
      some (-1000000002 : Int32)
    else
      f_X9_cheapest_h29 F a0 a1 M F (-1 : Int32) (0 : Int32)
/-! X9_ones -/
def f_X9_ones_h4_b (F : Nat) (a0 : Int32) (M : gM) (k4 : Int32 → Int32 → Option Int32) (x1 : Int32) (x2 : Int32) : Option Int32 :=
  if (28 : Int32) ≤ x2 then
    some x1
  else
    lt_ (x1 + ((a0 >>> (x2 &&& 31)) &&& (1 : Int32))) fun v1 =>
    k4 v1 (x2 + (1 : Int32))
def f_X9_ones_h4 (F : Nat) (a0 : Int32) (M : gM) : Nat → Int32 → Int32 → Option Int32
  | 0, _, _ => none
  | n + 1, x1, x2 => f_X9_ones_h4_b F a0 M (f_X9_ones_h4 F a0 M n) x1 x2
theorem f_X9_ones_h4_spec (F : Nat) (a0 : Int32) (M : gM)  (I : Int32 → Int32 → Prop) (μ : Int32 → Int32 → Nat) (φ : Int32 → Int32 → Option Int32)
    (h : ∀ (self : Int32 → Int32 → Option Int32) (x1 : Int32) (x2 : Int32), I x1 x2 → (∀ (x1' : Int32) (x2' : Int32), I x1' x2' → μ x1' x2' < μ x1 x2 → self x1' x2' = φ x1' x2') → f_X9_ones_h4_b F a0 M self x1 x2 = φ x1 x2) :
    ∀ (n : Nat) (x1 : Int32) (x2 : Int32), I x1 x2 → μ x1 x2 < n → f_X9_ones_h4 F a0 M n x1 x2 = φ x1 x2 := by
  intro n
  induction n with
  | zero => intro x1 x2 _ hm; exact absurd hm (Nat.not_lt_zero _)
  | succ n ih => intro x1 x2 hI hm; exact h _ x1 x2 hI (fun x1' x2' hI2 hlt => ih x1' x2' hI2 (by omega))
def f_X9_ones (F : Nat) (a0 : Int32) (M : gM) : Option Int32 :=
  f_X9_ones_h4 F a0 M F (0 : Int32) (0 : Int32)
/-! X9_clashMany -/
def f_X9_clashMany_h4_b (F : Nat) (M : gM) (k4 : Int32 → Int32 → Option Int32) (x1 : Int32) (x2 : Int32) : Option Int32 :=
  ck (ib (0 : Int32) 8) <|
  if (M 108 (0 : Int32).toNatClampNeg) ≤ x2 then
    some (x1 / (2 : Int32))
  else
    ck (ib x2 20) <|
    (f_X9_ones F (M 104 x2.toNatClampNeg) M).bind fun r1 =>
    lt_ (x1 + r1) fun v2 =>
    k4 v2 (x2 + (1 : Int32))
def f_X9_clashMany_h4 (F : Nat) (M : gM) : Nat → Int32 → Int32 → Option Int32
  | 0, _, _ => none
  | n + 1, x1, x2 => f_X9_clashMany_h4_b F M (f_X9_clashMany_h4 F M n) x1 x2
theorem f_X9_clashMany_h4_spec (F : Nat) (M : gM)  (I : Int32 → Int32 → Prop) (μ : Int32 → Int32 → Nat) (φ : Int32 → Int32 → Option Int32)
    (h : ∀ (self : Int32 → Int32 → Option Int32) (x1 : Int32) (x2 : Int32), I x1 x2 → (∀ (x1' : Int32) (x2' : Int32), I x1' x2' → μ x1' x2' < μ x1 x2 → self x1' x2' = φ x1' x2') → f_X9_clashMany_h4_b F M self x1 x2 = φ x1 x2) :
    ∀ (n : Nat) (x1 : Int32) (x2 : Int32), I x1 x2 → μ x1 x2 < n → f_X9_clashMany_h4 F M n x1 x2 = φ x1 x2 := by
  intro n
  induction n with
  | zero => intro x1 x2 _ hm; exact absurd hm (Nat.not_lt_zero _)
  | succ n ih => intro x1 x2 hI hm; exact h _ x1 x2 hI (fun x1' x2' hI2 hlt => ih x1' x2' hI2 (by omega))
def f_X9_clashMany (F : Nat) (M : gM) : Option Int32 :=
  f_X9_clashMany_h4 F M F (0 : Int32) (0 : Int32)
/-! X9_copy -/
def f_X9_copy_h2_b (F : Nat) (a0 : Int32) (a1 : Int32) (k2 : Int32 → gM → Option gM) (x3 : Int32) (M : gM) : Option gM :=
  if (40 : Int32) ≤ x3 then
    some M
  else
    ck (ib (a0 + x3) 160) <|
    ck (ib (a1 + x3) 160) <|
    ltM (gst M 96 (a1 + x3).toNatClampNeg (M 96 (a0 + x3).toNatClampNeg)) fun M1 =>
    k2 (x3 + (1 : Int32)) M1
def f_X9_copy_h2 (F : Nat) (a0 : Int32) (a1 : Int32) : Nat → Int32 → gM → Option gM
  | 0, _, _ => none
  | n + 1, x3, M => f_X9_copy_h2_b F a0 a1 (f_X9_copy_h2 F a0 a1 n) x3 M
theorem f_X9_copy_h2_spec (F : Nat) (a0 : Int32) (a1 : Int32)  (I : Int32 → gM → Prop) (μ : Int32 → gM → Nat) (φ : Int32 → gM → Option gM)
    (h : ∀ (self : Int32 → gM → Option gM) (x3 : Int32) (M : gM), I x3 M → (∀ (x3' : Int32) (M' : gM), I x3' M' → μ x3' M' < μ x3 M → self x3' M' = φ x3' M') → f_X9_copy_h2_b F a0 a1 self x3 M = φ x3 M) :
    ∀ (n : Nat) (x3 : Int32) (M : gM), I x3 M → μ x3 M < n → f_X9_copy_h2 F a0 a1 n x3 M = φ x3 M := by
  intro n
  induction n with
  | zero => intro x3 M _ hm; exact absurd hm (Nat.not_lt_zero _)
  | succ n ih => intro x3 M hI hm; exact h _ x3 M hI (fun x3' M' hI2 hlt => ih x3' M' hI2 (by omega))
def f_X9_copy (F : Nat) (a0 : Int32) (a1 : Int32) (M : gM) : Option gM :=
  f_X9_copy_h2 F a0 a1 F (0 : Int32) M
/-! X9_findSets -/
def f_X9_findSets_h66_b (F : Nat) (a0 : Int32) (a1 : Int32) (k66 : Int32 → gM → Option gM) (x3 : Int32) (M : gM) : Option gM :=
  if (1024 : Int32) ≤ x3 then
    some M
  else
    ck (ib x3 1024) <|
    ck (ib (((1024 : Int32) * a1) + x3) 12288) <|
    ltM (gst M 111 (((1024 : Int32) * a1) + x3).toNatClampNeg ((M 114 x3.toNatClampNeg) &&& 1)) fun M1 =>
    k66 (x3 + (1 : Int32)) M1
def f_X9_findSets_h66 (F : Nat) (a0 : Int32) (a1 : Int32) : Nat → Int32 → gM → Option gM
  | 0, _, _ => none
  | n + 1, x3, M => f_X9_findSets_h66_b F a0 a1 (f_X9_findSets_h66 F a0 a1 n) x3 M
theorem f_X9_findSets_h66_spec (F : Nat) (a0 : Int32) (a1 : Int32)  (I : Int32 → gM → Prop) (μ : Int32 → gM → Nat) (φ : Int32 → gM → Option gM)
    (h : ∀ (self : Int32 → gM → Option gM) (x3 : Int32) (M : gM), I x3 M → (∀ (x3' : Int32) (M' : gM), I x3' M' → μ x3' M' < μ x3 M → self x3' M' = φ x3' M') → f_X9_findSets_h66_b F a0 a1 self x3 M = φ x3 M) :
    ∀ (n : Nat) (x3 : Int32) (M : gM), I x3 M → μ x3 M < n → f_X9_findSets_h66 F a0 a1 n x3 M = φ x3 M := by
  intro n
  induction n with
  | zero => intro x3 M _ hm; exact absurd hm (Nat.not_lt_zero _)
  | succ n ih => intro x3 M hI hm; exact h _ x3 M hI (fun x3' M' hI2 hlt => ih x3' M' hI2 (by omega))
def f_X9_findSets_h32_b (F : Nat) (a0 : Int32) (a1 : Int32) (k32 : Int32 → gM → Option gM) (x3 : Int32) (M : gM) : Option gM :=
  ck (ib (1 : Int32) 8) <|
  if (M 108 (1 : Int32).toNatClampNeg) ≤ x3 then
    f_X9_findSets_h66 F a0 a1 F (0 : Int32) M
  else
    ck (ib x3 16) <|
    if (M 105 x3.toNatClampNeg) = a1 then
      (f_X9_addScene F a0 x3 M).bind fun r2 =>
      k32 (x3 + (1 : Int32)) r2
    else
      k32 (x3 + (1 : Int32)) M
def f_X9_findSets_h32 (F : Nat) (a0 : Int32) (a1 : Int32) : Nat → Int32 → gM → Option gM
  | 0, _, _ => none
  | n + 1, x3, M => f_X9_findSets_h32_b F a0 a1 (f_X9_findSets_h32 F a0 a1 n) x3 M
theorem f_X9_findSets_h32_spec (F : Nat) (a0 : Int32) (a1 : Int32)  (I : Int32 → gM → Prop) (μ : Int32 → gM → Nat) (φ : Int32 → gM → Option gM)
    (h : ∀ (self : Int32 → gM → Option gM) (x3 : Int32) (M : gM), I x3 M → (∀ (x3' : Int32) (M' : gM), I x3' M' → μ x3' M' < μ x3 M → self x3' M' = φ x3' M') → f_X9_findSets_h32_b F a0 a1 self x3 M = φ x3 M) :
    ∀ (n : Nat) (x3 : Int32) (M : gM), I x3 M → μ x3 M < n → f_X9_findSets_h32 F a0 a1 n x3 M = φ x3 M := by
  intro n
  induction n with
  | zero => intro x3 M _ hm; exact absurd hm (Nat.not_lt_zero _)
  | succ n ih => intro x3 M hI hm; exact h _ x3 M hI (fun x3' M' hI2 hlt => ih x3' M' hI2 (by omega))
def f_X9_findSets_h2_b (F : Nat) (a0 : Int32) (a1 : Int32) (k2 : Int32 → gM → Option gM) (x3 : Int32) (M : gM) : Option gM :=
  if (1024 : Int32) ≤ x3 then
    f_X9_findSets_h32 F a0 a1 F (0 : Int32) M
  else
    if x3 = 0 then
      ck (ib x3 1024) <|
      ltM (gst M 114 x3.toNatClampNeg ((1 : Int32) &&& 1)) fun M4 =>
      k2 (x3 + (1 : Int32)) M4
    else
      ck (ib x3 1024) <|
      ltM (gst M 114 x3.toNatClampNeg ((0 : Int32) &&& 1)) fun M3 =>
      k2 (x3 + (1 : Int32)) M3
def f_X9_findSets_h2 (F : Nat) (a0 : Int32) (a1 : Int32) : Nat → Int32 → gM → Option gM
  | 0, _, _ => none
  | n + 1, x3, M => f_X9_findSets_h2_b F a0 a1 (f_X9_findSets_h2 F a0 a1 n) x3 M
theorem f_X9_findSets_h2_spec (F : Nat) (a0 : Int32) (a1 : Int32)  (I : Int32 → gM → Prop) (μ : Int32 → gM → Nat) (φ : Int32 → gM → Option gM)
    (h : ∀ (self : Int32 → gM → Option gM) (x3 : Int32) (M : gM), I x3 M → (∀ (x3' : Int32) (M' : gM), I x3' M' → μ x3' M' < μ x3 M → self x3' M' = φ x3' M') → f_X9_findSets_h2_b F a0 a1 self x3 M = φ x3 M) :
    ∀ (n : Nat) (x3 : Int32) (M : gM), I x3 M → μ x3 M < n → f_X9_findSets_h2 F a0 a1 n x3 M = φ x3 M := by
  intro n
  induction n with
  | zero => intro x3 M _ hm; exact absurd hm (Nat.not_lt_zero _)
  | succ n ih => intro x3 M hI hm; exact h _ x3 M hI (fun x3' M' hI2 hlt => ih x3' M' hI2 (by omega))
def f_X9_findSets (F : Nat) (a0 : Int32) (a1 : Int32) (M : gM) : Option gM :=
  f_X9_findSets_h2 F a0 a1 F (0 : Int32) M
/-! X9_findAllSets -/
def f_X9_findAllSets_h2_b (F : Nat) (a0 : Int32) (k2 : Int32 → gM → Option gM) (x2 : Int32) (M : gM) : Option gM :=
  if (12 : Int32) ≤ x2 then
    some M
  else
    (f_X9_findSets F a0 x2 M).bind fun r1 =>
    k2 (x2 + (1 : Int32)) r1
def f_X9_findAllSets_h2 (F : Nat) (a0 : Int32) : Nat → Int32 → gM → Option gM
  | 0, _, _ => none
  | n + 1, x2, M => f_X9_findAllSets_h2_b F a0 (f_X9_findAllSets_h2 F a0 n) x2 M
theorem f_X9_findAllSets_h2_spec (F : Nat) (a0 : Int32)  (I : Int32 → gM → Prop) (μ : Int32 → gM → Nat) (φ : Int32 → gM → Option gM)
    (h : ∀ (self : Int32 → gM → Option gM) (x2 : Int32) (M : gM), I x2 M → (∀ (x2' : Int32) (M' : gM), I x2' M' → μ x2' M' < μ x2 M → self x2' M' = φ x2' M') → f_X9_findAllSets_h2_b F a0 self x2 M = φ x2 M) :
    ∀ (n : Nat) (x2 : Int32) (M : gM), I x2 M → μ x2 M < n → f_X9_findAllSets_h2 F a0 n x2 M = φ x2 M := by
  intro n
  induction n with
  | zero => intro x2 M _ hm; exact absurd hm (Nat.not_lt_zero _)
  | succ n ih => intro x2 M hI hm; exact h _ x2 M hI (fun x2' M' hI2 hlt => ih x2' M' hI2 (by omega))
def f_X9_findAllSets (F : Nat) (a0 : Int32) (M : gM) : Option gM :=
  f_X9_findAllSets_h2 F a0 F (0 : Int32) M
/-! X9_findLeast -/
def f_X9_findLeast_h52_b (F : Nat) (a0 : Int32) (k29 : Int32 → gM → Option gM) (k52 : Int32 → Int32 → gM → Option gM) (x2 : Int32) (x3 : Int32) (M : gM) : Option gM :=
  if (1024 : Int32) ≤ x3 then
    k29 (x2 + (-1 : Int32)) M
  else
    if x2 ≤ 0 then
      k29 (x2 + (-1 : Int32)) M
    else
      ck (ib (a0 + (31 : Int32)) 160) <|
      if (M 96 (a0 + (31 : Int32)).toNatClampNeg) = (1 : Int32) then
        ck (ib (((1024 : Int32) * (x2 - (1 : Int32))) + x3) 12288) <|
        if (M 111 (((1024 : Int32) * (x2 - (1 : Int32))) + x3).toNatClampNeg) = 0 then
          ck (ib (((1024 : Int32) * x2) + x3) 13312) <|
          ltM (gst M 112 (((1024 : Int32) * x2) + x3).toNatClampNeg (1000000 : Int32)) fun M3 =>
          k52 x2 (x3 + (1 : Int32)) M3
        else
          (f_X9_best F a0 x2 x3 M).bind fun r4 =>
          ck (ib (((1024 : Int32) * x2) + x3) 13312) <|
          ltM (gst M 112 (((1024 : Int32) * x2) + x3).toNatClampNeg r4) fun M5 =>
          k52 x2 (x3 + (1 : Int32)) M5
      else
        k29 (x2 + (-1 : Int32)) M
def f_X9_findLeast_h52 (F : Nat) (a0 : Int32) (k29 : Int32 → gM → Option gM) : Nat → Int32 → Int32 → gM → Option gM
  | 0, _, _, _ => none
  | n + 1, x2, x3, M => f_X9_findLeast_h52_b F a0 k29 (f_X9_findLeast_h52 F a0 k29 n) x2 x3 M
theorem f_X9_findLeast_h52_spec (F : Nat) (a0 : Int32) (k29 : Int32 → gM → Option gM) (I : Int32 → Int32 → gM → Prop) (μ : Int32 → Int32 → gM → Nat) (φ : Int32 → Int32 → gM → Option gM)
    (h : ∀ (self : Int32 → Int32 → gM → Option gM) (x2 : Int32) (x3 : Int32) (M : gM), I x2 x3 M → (∀ (x2' : Int32) (x3' : Int32) (M' : gM), I x2' x3' M' → μ x2' x3' M' < μ x2 x3 M → self x2' x3' M' = φ x2' x3' M') → f_X9_findLeast_h52_b F a0 k29 self x2 x3 M = φ x2 x3 M) :
    ∀ (n : Nat) (x2 : Int32) (x3 : Int32) (M : gM), I x2 x3 M → μ x2 x3 M < n → f_X9_findLeast_h52 F a0 k29 n x2 x3 M = φ x2 x3 M := by
  intro n
  induction n with
  | zero => intro x2 x3 M _ hm; exact absurd hm (Nat.not_lt_zero _)
  | succ n ih => intro x2 x3 M hI hm; exact h _ x2 x3 M hI (fun x2' x3' M' hI2 hlt => ih x2' x3' M' hI2 (by omega))
def f_X9_findLeast_h29_b (F : Nat) (a0 : Int32) (k29 : Int32 → gM → Option gM) (x2 : Int32) (M : gM) : Option gM :=
  if x2 < 0 then
    some M
  else
    (f_X9_best F a0 x2 (0 : Int32) M).bind fun r1 =>
    ck (ib ((1024 : Int32) * x2) 13312) <|
    ltM (gst M 112 ((1024 : Int32) * x2).toNatClampNeg r1) fun M2 =>
    f_X9_findLeast_h52 F a0 k29 F x2 (1 : Int32) M2
def f_X9_findLeast_h29 (F : Nat) (a0 : Int32) : Nat → Int32 → gM → Option gM
  | 0, _, _ => none
  | n + 1, x2, M => f_X9_findLeast_h29_b F a0 (f_X9_findLeast_h29 F a0 n) x2 M
theorem f_X9_findLeast_h29_spec (F : Nat) (a0 : Int32)  (I : Int32 → gM → Prop) (μ : Int32 → gM → Nat) (φ : Int32 → gM → Option gM)
    (h : ∀ (self : Int32 → gM → Option gM) (x2 : Int32) (M : gM), I x2 M → (∀ (x2' : Int32) (M' : gM), I x2' M' → μ x2' M' < μ x2 M → self x2' M' = φ x2' M') → f_X9_findLeast_h29_b F a0 self x2 M = φ x2 M) :
    ∀ (n : Nat) (x2 : Int32) (M : gM), I x2 M → μ x2 M < n → f_X9_findLeast_h29 F a0 n x2 M = φ x2 M := by
  intro n
  induction n with
  | zero => intro x2 M _ hm; exact absurd hm (Nat.not_lt_zero _)
  | succ n ih => intro x2 M hI hm; exact h _ x2 M hI (fun x2' M' hI2 hlt => ih x2' M' hI2 (by omega))
def f_X9_findLeast_h2_b (F : Nat) (a0 : Int32) (k2 : Int32 → gM → Option gM) (x2 : Int32) (M : gM) : Option gM :=
  if (1024 : Int32) ≤ x2 then
    f_X9_findLeast_h29 F a0 F (11 : Int32) M
  else
    ck (ib ((12288 : Int32) + x2) 13312) <|
    ltM (gst M 112 ((12288 : Int32) + x2).toNatClampNeg (0 : Int32)) fun M6 =>
    k2 (x2 + (1 : Int32)) M6
def f_X9_findLeast_h2 (F : Nat) (a0 : Int32) : Nat → Int32 → gM → Option gM
  | 0, _, _ => none
  | n + 1, x2, M => f_X9_findLeast_h2_b F a0 (f_X9_findLeast_h2 F a0 n) x2 M
theorem f_X9_findLeast_h2_spec (F : Nat) (a0 : Int32)  (I : Int32 → gM → Prop) (μ : Int32 → gM → Nat) (φ : Int32 → gM → Option gM)
    (h : ∀ (self : Int32 → gM → Option gM) (x2 : Int32) (M : gM), I x2 M → (∀ (x2' : Int32) (M' : gM), I x2' M' → μ x2' M' < μ x2 M → self x2' M' = φ x2' M') → f_X9_findLeast_h2_b F a0 self x2 M = φ x2 M) :
    ∀ (n : Nat) (x2 : Int32) (M : gM), I x2 M → μ x2 M < n → f_X9_findLeast_h2 F a0 n x2 M = φ x2 M := by
  intro n
  induction n with
  | zero => intro x2 M _ hm; exact absurd hm (Nat.not_lt_zero _)
  | succ n ih => intro x2 M hI hm; exact h _ x2 M hI (fun x2' M' hI2 hlt => ih x2' M' hI2 (by omega))
def f_X9_findLeast (F : Nat) (a0 : Int32) (M : gM) : Option gM :=
  f_X9_findLeast_h2 F a0 F (0 : Int32) M
/-! X9_leastIn -/
def f_X9_leastIn (F : Nat) (a0 : Int32) (M : gM) : Option (Int32 × gM) :=
  (f_X9_findAllSets F a0 M).bind fun r1 =>
  (f_X9_findLeast F a0 r1).bind fun r2 =>
  ck (ib (0 : Int32) 13312) <|
  if (r2 112 (0 : Int32).toNatClampNeg) < (1000000 : Int32) then
    ck (ib (0 : Int32) 13312) <|
    some (r2 112 (0 : Int32).toNatClampNeg, r2)
  else
    some ((-1 : Int32), r2)
/-! X9_one -/
def f_X9_one (a0 : Int32) (M : gM) : Option Int32 :=
  if a0 = 0 then
    some (0 : Int32)
  else
    some (1 : Int32)
/-! X9_findWorn -/
def f_X9_findWorn_b122 (F : Nat) (a0 : Int32) (k4 : Int32 → Int32 → gM → Option gM) (k16 : Int32 → Int32 → Int32 → Int32 → gM → Option gM) (x2 : Int32) (x3 : Int32) (x4 : Int32) (s0 : Int32) (M : gM) : Option gM :=
  if s0 = 0 then
    (f_X9_one (1 : Int32) M).bind fun r4 =>
    lt_ (x4 + r4) fun v5 =>
    k16 x2 x3 v5 s0 M
  else
    (f_X9_one (0 : Int32) M).bind fun r2 =>
    lt_ (x4 + r2) fun v3 =>
    k16 x2 x3 v3 s0 M
def f_X9_findWorn_b121 (F : Nat) (a0 : Int32) (k4 : Int32 → Int32 → gM → Option gM) (k16 : Int32 → Int32 → Int32 → Int32 → gM → Option gM) (x2 : Int32) (x3 : Int32) (x4 : Int32) (M : gM) : Option gM :=
  f_X9_findWorn_b122 F a0 k4 k16 x2 x3 x4 (0 : Int32) M
def f_X9_findWorn_b76 (F : Nat) (a0 : Int32) (k4 : Int32 → Int32 → gM → Option gM) (k16 : Int32 → Int32 → Int32 → Int32 → gM → Option gM) (x2 : Int32) (x3 : Int32) (x4 : Int32) (x6 : Int32) (M : gM) : Option gM :=
  (f_X9_sumOf F (a0 + (10 : Int32)) x4 M).bind fun r6 =>
  ck (ib (((1024 : Int32) * (x3 + (1 : Int32))) + x6) 13312) <|
  ck (ib (((1024 : Int32) * x3) + x2) 13312) <|
  if (r6 + (M 112 (((1024 : Int32) * (x3 + (1 : Int32))) + x6).toNatClampNeg)) = (M 112 (((1024 : Int32) * x3) + x2).toNatClampNeg) then
    f_X9_findWorn_b122 F a0 k4 k16 x2 x3 x4 (1 : Int32) M
  else
    f_X9_findWorn_b121 F a0 k4 k16 x2 x3 x4 M
def f_X9_findWorn_b39 (F : Nat) (a0 : Int32) (k4 : Int32 → Int32 → gM → Option gM) (k16 : Int32 → Int32 → Int32 → Int32 → gM → Option gM) (x2 : Int32) (x3 : Int32) (x4 : Int32) (s0 : Int32) (M : gM) : Option gM :=
  ck (ib (((1024 : Int32) * x3) + x4) 12288) <|
  if (M 111 (((1024 : Int32) * x3) + x4).toNatClampNeg) = 0 then
    f_X9_findWorn_b121 F a0 k4 k16 x2 x3 x4 M
  else
    ck (ib (a0 + (31 : Int32)) 160) <|
    if (M 96 (a0 + (31 : Int32)).toNatClampNeg) = 0 then
      f_X9_findWorn_b76 F a0 k4 k16 x2 x3 x4 s0 M
    else
      if (x4 &&& x2) = 0 then
        f_X9_findWorn_b76 F a0 k4 k16 x2 x3 x4 s0 M
      else
        f_X9_findWorn_b121 F a0 k4 k16 x2 x3 x4 M
def f_X9_findWorn_h16_b (F : Nat) (a0 : Int32) (k4 : Int32 → Int32 → gM → Option gM) (k16 : Int32 → Int32 → Int32 → Int32 → gM → Option gM) (x2 : Int32) (x3 : Int32) (x4 : Int32) (x5 : Int32) (M : gM) : Option gM :=
  if x5 = 0 then
    ck (ib (a0 + (31 : Int32)) 160) <|
    if (M 96 (a0 + (31 : Int32)).toNatClampNeg) = 0 then
      f_X9_findWorn_b39 F a0 k4 k16 x2 x3 x4 (0 : Int32) M
    else
      f_X9_findWorn_b39 F a0 k4 k16 x2 x3 x4 x4 M
  else
    ck (ib x3 12) <|
    ltM (gst M 115 x3.toNatClampNeg x4) fun M1 =>
    ck (ib (a0 + (31 : Int32)) 160) <|
    if (M1 96 (a0 + (31 : Int32)).toNatClampNeg) = 0 then
      k4 (0 : Int32) (x3 + (1 : Int32)) M1
    else
      k4 x4 (x3 + (1 : Int32)) M1
def f_X9_findWorn_h16 (F : Nat) (a0 : Int32) (k4 : Int32 → Int32 → gM → Option gM) : Nat → Int32 → Int32 → Int32 → Int32 → gM → Option gM
  | 0, _, _, _, _, _ => none
  | n + 1, x2, x3, x4, x5, M => f_X9_findWorn_h16_b F a0 k4 (f_X9_findWorn_h16 F a0 k4 n) x2 x3 x4 x5 M
theorem f_X9_findWorn_h16_spec (F : Nat) (a0 : Int32) (k4 : Int32 → Int32 → gM → Option gM) (I : Int32 → Int32 → Int32 → Int32 → gM → Prop) (μ : Int32 → Int32 → Int32 → Int32 → gM → Nat) (φ : Int32 → Int32 → Int32 → Int32 → gM → Option gM)
    (h : ∀ (self : Int32 → Int32 → Int32 → Int32 → gM → Option gM) (x2 : Int32) (x3 : Int32) (x4 : Int32) (x5 : Int32) (M : gM), I x2 x3 x4 x5 M → (∀ (x2' : Int32) (x3' : Int32) (x4' : Int32) (x5' : Int32) (M' : gM), I x2' x3' x4' x5' M' → μ x2' x3' x4' x5' M' < μ x2 x3 x4 x5 M → self x2' x3' x4' x5' M' = φ x2' x3' x4' x5' M') → f_X9_findWorn_h16_b F a0 k4 self x2 x3 x4 x5 M = φ x2 x3 x4 x5 M) :
    ∀ (n : Nat) (x2 : Int32) (x3 : Int32) (x4 : Int32) (x5 : Int32) (M : gM), I x2 x3 x4 x5 M → μ x2 x3 x4 x5 M < n → f_X9_findWorn_h16 F a0 k4 n x2 x3 x4 x5 M = φ x2 x3 x4 x5 M := by
  intro n
  induction n with
  | zero => intro x2 x3 x4 x5 M _ hm; exact absurd hm (Nat.not_lt_zero _)
  | succ n ih => intro x2 x3 x4 x5 M hI hm; exact h _ x2 x3 x4 x5 M hI (fun x2' x3' x4' x5' M' hI2 hlt => ih x2' x3' x4' x5' M' hI2 (by omega))
def f_X9_findWorn_h4_b (F : Nat) (a0 : Int32) (k4 : Int32 → Int32 → gM → Option gM) (x2 : Int32) (x3 : Int32) (M : gM) : Option gM :=
  if (12 : Int32) ≤ x3 then
    some M
  else
    f_X9_findWorn_h16 F a0 k4 F x2 x3 (0 : Int32) (0 : Int32) M
def f_X9_findWorn_h4 (F : Nat) (a0 : Int32) : Nat → Int32 → Int32 → gM → Option gM
  | 0, _, _, _ => none
  | n + 1, x2, x3, M => f_X9_findWorn_h4_b F a0 (f_X9_findWorn_h4 F a0 n) x2 x3 M
theorem f_X9_findWorn_h4_spec (F : Nat) (a0 : Int32)  (I : Int32 → Int32 → gM → Prop) (μ : Int32 → Int32 → gM → Nat) (φ : Int32 → Int32 → gM → Option gM)
    (h : ∀ (self : Int32 → Int32 → gM → Option gM) (x2 : Int32) (x3 : Int32) (M : gM), I x2 x3 M → (∀ (x2' : Int32) (x3' : Int32) (M' : gM), I x2' x3' M' → μ x2' x3' M' < μ x2 x3 M → self x2' x3' M' = φ x2' x3' M') → f_X9_findWorn_h4_b F a0 self x2 x3 M = φ x2 x3 M) :
    ∀ (n : Nat) (x2 : Int32) (x3 : Int32) (M : gM), I x2 x3 M → μ x2 x3 M < n → f_X9_findWorn_h4 F a0 n x2 x3 M = φ x2 x3 M := by
  intro n
  induction n with
  | zero => intro x2 x3 M _ hm; exact absurd hm (Nat.not_lt_zero _)
  | succ n ih => intro x2 x3 M hI hm; exact h _ x2 x3 M hI (fun x2' x3' M' hI2 hlt => ih x2' x3' M' hI2 (by omega))
def f_X9_findWorn (F : Nat) (a0 : Int32) (M : gM) : Option gM :=
  f_X9_findWorn_h4 F a0 F (0 : Int32) (0 : Int32) M
/-! X9_pass -/
def f_X9_pass_h79_b (F : Nat) (k30 : Int32 → Int32 → gM → Option (Int32 × gM)) (k79 : Int32 → Int32 → gM → Option (Int32 × gM)) (x1 : Int32) (x2 : Int32) (M : gM) : Option (Int32 × gM) :=
  ck (ib ((20 : Int32) + x2) 160) <|
  if (M 96 ((20 : Int32) + x2).toNatClampNeg) < (10 : Int32) then
    k30 x1 (x2 + (1 : Int32)) M
  else
    ck (ib ((20 : Int32) + x2) 160) <|
    ck (ib ((20 : Int32) + x2) 160) <|
    ltM (gst M 96 ((20 : Int32) + x2).toNatClampNeg ((M 96 ((20 : Int32) + x2).toNatClampNeg) - (10 : Int32))) fun M7 =>
    ck (ib x2 160) <|
    if (M7 96 x2.toNatClampNeg) ≤ 0 then
      ck (ib x2 160) <|
      ltM (gst M7 96 x2.toNatClampNeg (0 : Int32)) fun M8 =>
      k79 x1 x2 M8
    else
      ck (ib x2 160) <|
      ck (ib x2 160) <|
      ltM (gst M7 96 x2.toNatClampNeg ((M7 96 x2.toNatClampNeg) - (1 : Int32))) fun M9 =>
      k79 x1 x2 M9
def f_X9_pass_h79 (F : Nat) (k30 : Int32 → Int32 → gM → Option (Int32 × gM)) : Nat → Int32 → Int32 → gM → Option (Int32 × gM)
  | 0, _, _, _ => none
  | n + 1, x1, x2, M => f_X9_pass_h79_b F k30 (f_X9_pass_h79 F k30 n) x1 x2 M
theorem f_X9_pass_h79_spec (F : Nat) (k30 : Int32 → Int32 → gM → Option (Int32 × gM)) (I : Int32 → Int32 → gM → Prop) (μ : Int32 → Int32 → gM → Nat) (φ : Int32 → Int32 → gM → Option (Int32 × gM))
    (h : ∀ (self : Int32 → Int32 → gM → Option (Int32 × gM)) (x1 : Int32) (x2 : Int32) (M : gM), I x1 x2 M → (∀ (x1' : Int32) (x2' : Int32) (M' : gM), I x1' x2' M' → μ x1' x2' M' < μ x1 x2 M → self x1' x2' M' = φ x1' x2' M') → f_X9_pass_h79_b F k30 self x1 x2 M = φ x1 x2 M) :
    ∀ (n : Nat) (x1 : Int32) (x2 : Int32) (M : gM), I x1 x2 M → μ x1 x2 M < n → f_X9_pass_h79 F k30 n x1 x2 M = φ x1 x2 M := by
  intro n
  induction n with
  | zero => intro x1 x2 M _ hm; exact absurd hm (Nat.not_lt_zero _)
  | succ n ih => intro x1 x2 M hI hm; exact h _ x1 x2 M hI (fun x1' x2' M' hI2 hlt => ih x1' x2' M' hI2 (by omega))
def f_X9_pass_h42_b (F : Nat) (k30 : Int32 → Int32 → gM → Option (Int32 × gM)) (k42 : Int32 → Int32 → Int32 → gM → Option (Int32 × gM)) (x1 : Int32) (x2 : Int32) (x3 : Int32) (M : gM) : Option (Int32 × gM) :=
  if (12 : Int32) ≤ x3 then
    f_X9_pass_h79 F k30 F x1 x2 M
  else
    ck (ib ((20 : Int32) + x2) 160) <|
    ck (ib x3 12) <|
    (f_X9_has (M 115 x3.toNatClampNeg) x2 M).bind fun r10 =>
    (f_X9_one r10 M).bind fun r11 =>
    ck (ib ((20 : Int32) + x2) 160) <|
    ltM (gst M 96 ((20 : Int32) + x2).toNatClampNeg ((M 96 ((20 : Int32) + x2).toNatClampNeg) + r11)) fun M12 =>
    k42 x1 x2 (x3 + (1 : Int32)) M12
def f_X9_pass_h42 (F : Nat) (k30 : Int32 → Int32 → gM → Option (Int32 × gM)) : Nat → Int32 → Int32 → Int32 → gM → Option (Int32 × gM)
  | 0, _, _, _, _ => none
  | n + 1, x1, x2, x3, M => f_X9_pass_h42_b F k30 (f_X9_pass_h42 F k30 n) x1 x2 x3 M
theorem f_X9_pass_h42_spec (F : Nat) (k30 : Int32 → Int32 → gM → Option (Int32 × gM)) (I : Int32 → Int32 → Int32 → gM → Prop) (μ : Int32 → Int32 → Int32 → gM → Nat) (φ : Int32 → Int32 → Int32 → gM → Option (Int32 × gM))
    (h : ∀ (self : Int32 → Int32 → Int32 → gM → Option (Int32 × gM)) (x1 : Int32) (x2 : Int32) (x3 : Int32) (M : gM), I x1 x2 x3 M → (∀ (x1' : Int32) (x2' : Int32) (x3' : Int32) (M' : gM), I x1' x2' x3' M' → μ x1' x2' x3' M' < μ x1 x2 x3 M → self x1' x2' x3' M' = φ x1' x2' x3' M') → f_X9_pass_h42_b F k30 self x1 x2 x3 M = φ x1 x2 x3 M) :
    ∀ (n : Nat) (x1 : Int32) (x2 : Int32) (x3 : Int32) (M : gM), I x1 x2 x3 M → μ x1 x2 x3 M < n → f_X9_pass_h42 F k30 n x1 x2 x3 M = φ x1 x2 x3 M := by
  intro n
  induction n with
  | zero => intro x1 x2 x3 M _ hm; exact absurd hm (Nat.not_lt_zero _)
  | succ n ih => intro x1 x2 x3 M hI hm; exact h _ x1 x2 x3 M hI (fun x1' x2' x3' M' hI2 hlt => ih x1' x2' x3' M' hI2 (by omega))
def f_X9_pass_h30_b (F : Nat) (k30 : Int32 → Int32 → gM → Option (Int32 × gM)) (x1 : Int32) (x2 : Int32) (M : gM) : Option (Int32 × gM) :=
  ck (ib (0 : Int32) 8) <|
  if (M 108 (0 : Int32).toNatClampNeg) ≤ x2 then
    ck (ib (30 : Int32) 160) <|
    if ((M 96 (30 : Int32).toNatClampNeg) + x1) ≤ (999999999 : Int32) then
      ck (ib (30 : Int32) 160) <|
      ck (ib (30 : Int32) 160) <|
      ltM (gst M 96 (30 : Int32).toNatClampNeg ((M 96 (30 : Int32).toNatClampNeg) + x1)) fun M5 =>
      some (x1, M5)
    else
      ck (ib (30 : Int32) 160) <|
      ltM (gst M 96 (30 : Int32).toNatClampNeg (999999999 : Int32)) fun M6 =>
      some (x1, M6)
  else
    f_X9_pass_h42 F k30 F x1 x2 (0 : Int32) M
def f_X9_pass_h30 (F : Nat) : Nat → Int32 → Int32 → gM → Option (Int32 × gM)
  | 0, _, _, _ => none
  | n + 1, x1, x2, M => f_X9_pass_h30_b F (f_X9_pass_h30 F n) x1 x2 M
theorem f_X9_pass_h30_spec (F : Nat)  (I : Int32 → Int32 → gM → Prop) (μ : Int32 → Int32 → gM → Nat) (φ : Int32 → Int32 → gM → Option (Int32 × gM))
    (h : ∀ (self : Int32 → Int32 → gM → Option (Int32 × gM)) (x1 : Int32) (x2 : Int32) (M : gM), I x1 x2 M → (∀ (x1' : Int32) (x2' : Int32) (M' : gM), I x1' x2' M' → μ x1' x2' M' < μ x1 x2 M → self x1' x2' M' = φ x1' x2' M') → f_X9_pass_h30_b F self x1 x2 M = φ x1 x2 M) :
    ∀ (n : Nat) (x1 : Int32) (x2 : Int32) (M : gM), I x1 x2 M → μ x1 x2 M < n → f_X9_pass_h30 F n x1 x2 M = φ x1 x2 M := by
  intro n
  induction n with
  | zero => intro x1 x2 M _ hm; exact absurd hm (Nat.not_lt_zero _)
  | succ n ih => intro x1 x2 M hI hm; exact h _ x1 x2 M hI (fun x1' x2' M' hI2 hlt => ih x1' x2' M' hI2 (by omega))
def f_X9_pass (F : Nat) (M : gM) : Option (Int32 × gM) :=
  (f_X9_leastIn F (0 : Int32) M).bind fun r1 =>
  lt_ r1.1 fun v2 =>
  ck (ib (32 : Int32) 160) <|
  ck (ib (32 : Int32) 160) <|
  ltM (gst r1.2 96 (32 : Int32).toNatClampNeg ((r1.2 96 (32 : Int32).toNatClampNeg) + (1 : Int32))) fun M3 =>
  if 0 ≤ v2 then
    (f_X9_findWorn F (0 : Int32) M3).bind fun r4 =>
    f_X9_pass_h30 F F v2 (0 : Int32) r4
  else
    some ((0 : Int32), M3)
/-! X9_day -/
def f_X9_day_h19_b (F : Nat) (a0 : Int32) (k19 : Int32 → Int32 → gM → Option (Int32 × gM)) (x2 : Int32) (x3 : Int32) (M : gM) : Option (Int32 × gM) :=
  if a0 ≤ x3 then
    some (x2, M)
  else
    (f_X9_pass F M).bind fun r2 =>
    lt_ (x2 + r2.1) fun v3 =>
    k19 v3 (x3 + (1 : Int32)) r2.2
def f_X9_day_h19 (F : Nat) (a0 : Int32) : Nat → Int32 → Int32 → gM → Option (Int32 × gM)
  | 0, _, _, _ => none
  | n + 1, x2, x3, M => f_X9_day_h19_b F a0 (f_X9_day_h19 F a0 n) x2 x3 M
theorem f_X9_day_h19_spec (F : Nat) (a0 : Int32)  (I : Int32 → Int32 → gM → Prop) (μ : Int32 → Int32 → gM → Nat) (φ : Int32 → Int32 → gM → Option (Int32 × gM))
    (h : ∀ (self : Int32 → Int32 → gM → Option (Int32 × gM)) (x2 : Int32) (x3 : Int32) (M : gM), I x2 x3 M → (∀ (x2' : Int32) (x3' : Int32) (M' : gM), I x2' x3' M' → μ x2' x3' M' < μ x2 x3 M → self x2' x3' M' = φ x2' x3' M') → f_X9_day_h19_b F a0 self x2 x3 M = φ x2 x3 M) :
    ∀ (n : Nat) (x2 : Int32) (x3 : Int32) (M : gM), I x2 x3 M → μ x2 x3 M < n → f_X9_day_h19 F a0 n x2 x3 M = φ x2 x3 M := by
  intro n
  induction n with
  | zero => intro x2 x3 M _ hm; exact absurd hm (Nat.not_lt_zero _)
  | succ n ih => intro x2 x3 M hI hm; exact h _ x2 x3 M hI (fun x2' x3' M' hI2 hlt => ih x2' x3' M' hI2 (by omega))
def f_X9_day (F : Nat) (a0 : Int32) (M : gM) : Option (Int32 × gM) :=
  (f_X9_in a0.toInt64 (1 : Int64) (9 : Int64) M).bind fun r1 =>
  if r1 = 0 then
    some ((-1000000002 : Int32), M)
  else
    f_X9_day_h19 F a0 F (0 : Int32) (0 : Int32) M
/-! X9_draw -/
def f_X9_draw (a0 : Int32) (M : gM) : Option (Int32 × gM) :=
  ck (ib (33 : Int32) 160) <|
  ck (ib (33 : Int32) 160) <|
  ltM (gst M 96 (33 : Int32).toNatClampNeg ((((((M 96 (33 : Int32).toNatClampNeg).toInt64) * (1103515245 : Int64)) + (12345 : Int64)) - ((((M 96 (33 : Int32).toNatClampNeg).toInt64) * (1103515245 : Int64)) + (12345 : Int64)) / (2147483648 : Int64) * (2147483648 : Int64)).toInt32)) fun M1 =>
  ck (ib (33 : Int32) 160) <|
  ck (decide (¬ a0 = 0)) <|
  some (((M1 96 (33 : Int32).toNatClampNeg) / (65536 : Int32)) - ((M1 96 (33 : Int32).toNatClampNeg) / (65536 : Int32)) / a0 * a0, M1)
/-! X9_firstLook -/
def f_X9_firstLook_b50 (F : Nat) (a0 : Int32) (a1 : Int32) (k10 : Int32 → Int32 → gM → Option (Int32 × gM)) (x3 : Int32) (x4 : Int32) (s0 : Int32) (M : gM) : Option (Int32 × gM) :=
  if s0 = 0 then
    k10 x3 (x4 + (-1 : Int32)) M
  else
    ck (ib a0 16) <|
    ck (ib x4 64) <|
    (f_X9_canRest F (a0 + (1 : Int32)) (M 105 a0.toNatClampNeg) (a1 &&& ((M 110 x4.toNatClampNeg) ^^^ (-1 : Int32))) M).bind fun r2 =>
    if r2.1 = 0 then
      k10 x3 (x4 + (-1 : Int32)) r2.2
    else
      k10 x4 (x4 + (-1 : Int32)) r2.2
def f_X9_firstLook_b49 (F : Nat) (a0 : Int32) (a1 : Int32) (k10 : Int32 → Int32 → gM → Option (Int32 × gM)) (x3 : Int32) (x4 : Int32) (M : gM) : Option (Int32 × gM) :=
  f_X9_firstLook_b50 F a0 a1 k10 x3 x4 (0 : Int32) M
def f_X9_firstLook_h10_b (F : Nat) (a0 : Int32) (a1 : Int32) (k10 : Int32 → Int32 → gM → Option (Int32 × gM)) (x3 : Int32) (x4 : Int32) (M : gM) : Option (Int32 × gM) :=
  if x4 < 0 then
    some (x3, M)
  else
    ck (ib x4 64) <|
    if ((M 110 x4.toNatClampNeg) &&& (a1 ^^^ (-1 : Int32))) = 0 then
      ck (ib x4 64) <|
      (f_X9_isFor F (0 : Int32) (M 110 x4.toNatClampNeg) a0 M).bind fun r3 =>
      if r3 = 0 then
        f_X9_firstLook_b49 F a0 a1 k10 x3 x4 M
      else
        f_X9_firstLook_b50 F a0 a1 k10 x3 x4 (1 : Int32) M
    else
      f_X9_firstLook_b49 F a0 a1 k10 x3 x4 M
def f_X9_firstLook_h10 (F : Nat) (a0 : Int32) (a1 : Int32) : Nat → Int32 → Int32 → gM → Option (Int32 × gM)
  | 0, _, _, _ => none
  | n + 1, x3, x4, M => f_X9_firstLook_h10_b F a0 a1 (f_X9_firstLook_h10 F a0 a1 n) x3 x4 M
theorem f_X9_firstLook_h10_spec (F : Nat) (a0 : Int32) (a1 : Int32)  (I : Int32 → Int32 → gM → Prop) (μ : Int32 → Int32 → gM → Nat) (φ : Int32 → Int32 → gM → Option (Int32 × gM))
    (h : ∀ (self : Int32 → Int32 → gM → Option (Int32 × gM)) (x3 : Int32) (x4 : Int32) (M : gM), I x3 x4 M → (∀ (x3' : Int32) (x4' : Int32) (M' : gM), I x3' x4' M' → μ x3' x4' M' < μ x3 x4 M → self x3' x4' M' = φ x3' x4' M') → f_X9_firstLook_h10_b F a0 a1 self x3 x4 M = φ x3 x4 M) :
    ∀ (n : Nat) (x3 : Int32) (x4 : Int32) (M : gM), I x3 x4 M → μ x3 x4 M < n → f_X9_firstLook_h10 F a0 a1 n x3 x4 M = φ x3 x4 M := by
  intro n
  induction n with
  | zero => intro x3 x4 M _ hm; exact absurd hm (Nat.not_lt_zero _)
  | succ n ih => intro x3 x4 M hI hm; exact h _ x3 x4 M hI (fun x3' x4' M' hI2 hlt => ih x3' x4' M' hI2 (by omega))
def f_X9_firstLook (F : Nat) (a0 : Int32) (a1 : Int32) (M : gM) : Option (Int32 × gM) :=
  lt_ ((M 95 21) - (1 : Int32)) fun v1 =>
  f_X9_firstLook_h10 F a0 a1 F (-1 : Int32) v1 M
/-! X9_lookOf -/
def f_X9_lookOf_h17_b (F : Nat) (a0 : Int32) (k17 : Int32 → Int32 → Int32 → gM → Option (Int32 × gM)) (x2 : Int32) (x3 : Int32) (x4 : Int32) (M : gM) : Option (Int32 × gM) :=
  if a0 < x4 then
    ck (ib x3 64) <|
    some (M 110 x3.toNatClampNeg, M)
  else
    ck (ib x4 16) <|
    ck (ib a0 16) <|
    if (M 105 x4.toNatClampNeg) = (M 105 a0.toNatClampNeg) then
      (f_X9_firstLook F x4 x2 M).bind fun r2 =>
      lt_ r2.1 fun v3 =>
      ck (ib v3 64) <|
      lt_ (x2 &&& ((r2.2 110 v3.toNatClampNeg) ^^^ (-1 : Int32))) fun v4 =>
      k17 v4 v3 (x4 + (1 : Int32)) r2.2
    else
      k17 x2 x3 (x4 + (1 : Int32)) M
def f_X9_lookOf_h17 (F : Nat) (a0 : Int32) : Nat → Int32 → Int32 → Int32 → gM → Option (Int32 × gM)
  | 0, _, _, _, _ => none
  | n + 1, x2, x3, x4, M => f_X9_lookOf_h17_b F a0 (f_X9_lookOf_h17 F a0 n) x2 x3 x4 M
theorem f_X9_lookOf_h17_spec (F : Nat) (a0 : Int32)  (I : Int32 → Int32 → Int32 → gM → Prop) (μ : Int32 → Int32 → Int32 → gM → Nat) (φ : Int32 → Int32 → Int32 → gM → Option (Int32 × gM))
    (h : ∀ (self : Int32 → Int32 → Int32 → gM → Option (Int32 × gM)) (x2 : Int32) (x3 : Int32) (x4 : Int32) (M : gM), I x2 x3 x4 M → (∀ (x2' : Int32) (x3' : Int32) (x4' : Int32) (M' : gM), I x2' x3' x4' M' → μ x2' x3' x4' M' < μ x2 x3 x4 M → self x2' x3' x4' M' = φ x2' x3' x4' M') → f_X9_lookOf_h17_b F a0 self x2 x3 x4 M = φ x2 x3 x4 M) :
    ∀ (n : Nat) (x2 : Int32) (x3 : Int32) (x4 : Int32) (M : gM), I x2 x3 x4 M → μ x2 x3 x4 M < n → f_X9_lookOf_h17 F a0 n x2 x3 x4 M = φ x2 x3 x4 M := by
  intro n
  induction n with
  | zero => intro x2 x3 x4 M _ hm; exact absurd hm (Nat.not_lt_zero _)
  | succ n ih => intro x2 x3 x4 M hI hm; exact h _ x2 x3 x4 M hI (fun x2' x3' x4' M' hI2 hlt => ih x2' x3' x4' M' hI2 (by omega))
def f_X9_lookOf (F : Nat) (a0 : Int32) (M : gM) : Option (Int32 × gM) :=
  ck (ib a0 16) <|
  ck (ib (M 105 a0.toNatClampNeg) 12) <|
  lt_ (M 115 (M 105 a0.toNatClampNeg).toNatClampNeg) fun v1 =>
  f_X9_lookOf_h17 F a0 F v1 (-1 : Int32) (0 : Int32) M
/-! X9_dressing -/
def f_X9_dressing_b16 (F : Nat) (a0 : Int32) (M : gM) : Option (Int32 × gM) :=
  (f_X9_leastIn F (0 : Int32) M).bind fun r1 =>
  lt_ r1.1 fun v2 =>
  if v2 < 0 then
    some (v2, r1.2)
  else
    if 0 ≤ a0 then
      (f_X9_findWorn F (0 : Int32) r1.2).bind fun r3 =>
      (f_X9_lookOf F a0 r3).bind fun r4 =>
      some (r4.1, r4.2)
    else
      some (v2, r1.2)
def f_X9_dressing (F : Nat) (a0 : Int32) (M : gM) : Option (Int32 × gM) :=
  if a0 = (-1 : Int32) then
    f_X9_dressing_b16 F a0 M
  else
    (f_X9_isScene a0 M).bind fun r5 =>
    if r5 = 0 then
      some ((-1000000001 : Int32), M)
    else
      f_X9_dressing_b16 F a0 M
/-! X9_drift -/
def f_X9_drift_b75 (F : Nat) (a0 : Int32) (k19 : Int32 → Int32 → gM → Option (Int32 × gM)) (k27 : Int32 → Int32 → Int32 → gM → Option (Int32 × gM)) (x2 : Int32) (x3 : Int32) (x4 : Int32) (s0 : Int32) (s1 : Int32) (M : gM) : Option (Int32 × gM) :=
  lt_ (s1 + s0) fun v6 =>
  if v6 ≤ (99 : Int32) then
    if 0 ≤ v6 then
      ck (ib ((10 : Int32) + x4) 160) <|
      ltM (gst M 96 ((10 : Int32) + x4).toNatClampNeg v6) fun M7 =>
      k27 x2 x3 (x4 + (1 : Int32)) M7
    else
      ck (ib ((10 : Int32) + x4) 160) <|
      ltM (gst M 96 ((10 : Int32) + x4).toNatClampNeg (0 : Int32)) fun M8 =>
      k27 x2 x3 (x4 + (1 : Int32)) M8
  else
    ck (ib ((10 : Int32) + x4) 160) <|
    ltM (gst M 96 ((10 : Int32) + x4).toNatClampNeg (99 : Int32)) fun M9 =>
    k27 x2 x3 (x4 + (1 : Int32)) M9
def f_X9_drift_h27_b (F : Nat) (a0 : Int32) (k19 : Int32 → Int32 → gM → Option (Int32 × gM)) (k27 : Int32 → Int32 → Int32 → gM → Option (Int32 × gM)) (x2 : Int32) (x3 : Int32) (x4 : Int32) (M : gM) : Option (Int32 × gM) :=
  ck (ib (0 : Int32) 8) <|
  if (M 108 (0 : Int32).toNatClampNeg) ≤ x4 then
    (f_X9_pass F M).bind fun r2 =>
    lt_ (x2 + r2.1) fun v3 =>
    k19 v3 (x3 + (1 : Int32)) r2.2
  else
    (f_X9_draw (4 : Int32) M).bind fun r4 =>
    lt_ r4.1 fun v5 =>
    ck (ib ((10 : Int32) + x4) 160) <|
    if v5 = 0 then
      f_X9_drift_b75 F a0 k19 k27 x2 x3 x4 (1 : Int32) (r4.2 96 ((10 : Int32) + x4).toNatClampNeg) r4.2
    else
      if v5 = (1 : Int32) then
        f_X9_drift_b75 F a0 k19 k27 x2 x3 x4 (-1 : Int32) (r4.2 96 ((10 : Int32) + x4).toNatClampNeg) r4.2
      else
        f_X9_drift_b75 F a0 k19 k27 x2 x3 x4 (0 : Int32) (r4.2 96 ((10 : Int32) + x4).toNatClampNeg) r4.2
def f_X9_drift_h27 (F : Nat) (a0 : Int32) (k19 : Int32 → Int32 → gM → Option (Int32 × gM)) : Nat → Int32 → Int32 → Int32 → gM → Option (Int32 × gM)
  | 0, _, _, _, _ => none
  | n + 1, x2, x3, x4, M => f_X9_drift_h27_b F a0 k19 (f_X9_drift_h27 F a0 k19 n) x2 x3 x4 M
theorem f_X9_drift_h27_spec (F : Nat) (a0 : Int32) (k19 : Int32 → Int32 → gM → Option (Int32 × gM)) (I : Int32 → Int32 → Int32 → gM → Prop) (μ : Int32 → Int32 → Int32 → gM → Nat) (φ : Int32 → Int32 → Int32 → gM → Option (Int32 × gM))
    (h : ∀ (self : Int32 → Int32 → Int32 → gM → Option (Int32 × gM)) (x2 : Int32) (x3 : Int32) (x4 : Int32) (M : gM), I x2 x3 x4 M → (∀ (x2' : Int32) (x3' : Int32) (x4' : Int32) (M' : gM), I x2' x3' x4' M' → μ x2' x3' x4' M' < μ x2 x3 x4 M → self x2' x3' x4' M' = φ x2' x3' x4' M') → f_X9_drift_h27_b F a0 k19 self x2 x3 x4 M = φ x2 x3 x4 M) :
    ∀ (n : Nat) (x2 : Int32) (x3 : Int32) (x4 : Int32) (M : gM), I x2 x3 x4 M → μ x2 x3 x4 M < n → f_X9_drift_h27 F a0 k19 n x2 x3 x4 M = φ x2 x3 x4 M := by
  intro n
  induction n with
  | zero => intro x2 x3 x4 M _ hm; exact absurd hm (Nat.not_lt_zero _)
  | succ n ih => intro x2 x3 x4 M hI hm; exact h _ x2 x3 x4 M hI (fun x2' x3' x4' M' hI2 hlt => ih x2' x3' x4' M' hI2 (by omega))
def f_X9_drift_h19_b (F : Nat) (a0 : Int32) (k19 : Int32 → Int32 → gM → Option (Int32 × gM)) (x2 : Int32) (x3 : Int32) (M : gM) : Option (Int32 × gM) :=
  if a0 ≤ x3 then
    some (x2, M)
  else
    f_X9_drift_h27 F a0 k19 F x2 x3 (0 : Int32) M
def f_X9_drift_h19 (F : Nat) (a0 : Int32) : Nat → Int32 → Int32 → gM → Option (Int32 × gM)
  | 0, _, _, _ => none
  | n + 1, x2, x3, M => f_X9_drift_h19_b F a0 (f_X9_drift_h19 F a0 n) x2 x3 M
theorem f_X9_drift_h19_spec (F : Nat) (a0 : Int32)  (I : Int32 → Int32 → gM → Prop) (μ : Int32 → Int32 → gM → Nat) (φ : Int32 → Int32 → gM → Option (Int32 × gM))
    (h : ∀ (self : Int32 → Int32 → gM → Option (Int32 × gM)) (x2 : Int32) (x3 : Int32) (M : gM), I x2 x3 M → (∀ (x2' : Int32) (x3' : Int32) (M' : gM), I x2' x3' M' → μ x2' x3' M' < μ x2 x3 M → self x2' x3' M' = φ x2' x3' M') → f_X9_drift_h19_b F a0 self x2 x3 M = φ x2 x3 M) :
    ∀ (n : Nat) (x2 : Int32) (x3 : Int32) (M : gM), I x2 x3 M → μ x2 x3 M < n → f_X9_drift_h19 F a0 n x2 x3 M = φ x2 x3 M := by
  intro n
  induction n with
  | zero => intro x2 x3 M _ hm; exact absurd hm (Nat.not_lt_zero _)
  | succ n ih => intro x2 x3 M hI hm; exact h _ x2 x3 M hI (fun x2' x3' M' hI2 hlt => ih x2' x3' M' hI2 (by omega))
def f_X9_drift (F : Nat) (a0 : Int32) (M : gM) : Option (Int32 × gM) :=
  (f_X9_in a0.toInt64 (1 : Int64) (9 : Int64) M).bind fun r1 =>
  if r1 = 0 then
    some ((-1000000002 : Int32), M)
  else
    f_X9_drift_h19 F a0 F (0 : Int32) (0 : Int32) M
/-! X9_fault -/
def f_X9_fault (M : gM) : Option Int32 :=
  some (M 95 19)
/-! X9_feed -/
def f_X9_feed_h35_b (F : Nat) (a0 : Int32) (a1 : Int64) (k35 : Int32 → gM → Option (Int32 × gM)) (x4 : Int32) (M : gM) : Option (Int32 × gM) :=
  if x4 < 0 then
    some (M 95 14, M)
  else
    ck (ib (M 95 14) 400) <|
    ltM (gst M 109 (M 95 14).toNatClampNeg (((a1 >>> (((8 : Int32) * x4).toInt64 &&& 63)) &&& (255 : Int64)).toInt32)) fun M3 =>
    ltM (gst M3 95 14 ((M3 95 14) + (1 : Int32))) fun M4 =>
    k35 (x4 + (-1 : Int32)) M4
def f_X9_feed_h35 (F : Nat) (a0 : Int32) (a1 : Int64) : Nat → Int32 → gM → Option (Int32 × gM)
  | 0, _, _ => none
  | n + 1, x4, M => f_X9_feed_h35_b F a0 a1 (f_X9_feed_h35 F a0 a1 n) x4 M
theorem f_X9_feed_h35_spec (F : Nat) (a0 : Int32) (a1 : Int64)  (I : Int32 → gM → Prop) (μ : Int32 → gM → Nat) (φ : Int32 → gM → Option (Int32 × gM))
    (h : ∀ (self : Int32 → gM → Option (Int32 × gM)) (x4 : Int32) (M : gM), I x4 M → (∀ (x4' : Int32) (M' : gM), I x4' M' → μ x4' M' < μ x4 M → self x4' M' = φ x4' M') → f_X9_feed_h35_b F a0 a1 self x4 M = φ x4 M) :
    ∀ (n : Nat) (x4 : Int32) (M : gM), I x4 M → μ x4 M < n → f_X9_feed_h35 F a0 a1 n x4 M = φ x4 M := by
  intro n
  induction n with
  | zero => intro x4 M _ hm; exact absurd hm (Nat.not_lt_zero _)
  | succ n ih => intro x4 M hI hm; exact h _ x4 M hI (fun x4' M' hI2 hlt => ih x4' M' hI2 (by omega))
def f_X9_feed (F : Nat) (a0 : Int32) (a1 : Int64) (M : gM) : Option (Int32 × gM) :=
  (f_X9_in a0.toInt64 (1 : Int64) (8 : Int64) M).bind fun r1 =>
  if r1 = 0 then
    some ((-1000000002 : Int32), M)
  else
    if ((M 95 14) + a0) ≤ (400 : Int32) then
      lt_ (a0 - (1 : Int32)) fun v2 =>
      f_X9_feed_h35 F a0 a1 F v2 M
    else
      some ((-1000000004 : Int32), M)
/-! X9_findLooks -/
def f_X9_findLooks_b75 (F : Nat) (k7 : Int32 → gM → Option gM) (k19 : Int32 → Int32 → gM → Option gM) (k31 : Int32 → Int32 → Int32 → gM → Option gM) (x1 : Int32) (x2 : Int32) (x3 : Int32) (s0 : Int32) (M : gM) : Option gM :=
  if s0 = 0 then
    k31 x1 x2 (x3 + (1 : Int32)) M
  else
    ck (ib x1 20) <|
    (f_X9_has (M 104 x1.toNatClampNeg) x2 M).bind fun r2 =>
    if r2 = 0 then
      ck (ib x1 20) <|
      (f_X9_has (M 104 x1.toNatClampNeg) x3 M).bind fun r3 =>
      if r3 = 0 then
        ck (ib x2 20) <|
        (f_X9_has (M 104 x2.toNatClampNeg) x3 M).bind fun r4 =>
        if r4 = 0 then
          ck (ib (M 95 21) 64) <|
          ltM (gst M 110 (M 95 21).toNatClampNeg ((((1 : Int32) <<< (x1 &&& 31)) ||| ((1 : Int32) <<< (x2 &&& 31))) ||| ((1 : Int32) <<< (x3 &&& 31)))) fun M5 =>
          ltM (gst M5 95 21 ((M5 95 21) + (1 : Int32))) fun M6 =>
          k31 x1 x2 (x3 + (1 : Int32)) M6
        else
          k31 x1 x2 (x3 + (1 : Int32)) M
      else
        k31 x1 x2 (x3 + (1 : Int32)) M
    else
      k31 x1 x2 (x3 + (1 : Int32)) M
def f_X9_findLooks_b74 (F : Nat) (k7 : Int32 → gM → Option gM) (k19 : Int32 → Int32 → gM → Option gM) (k31 : Int32 → Int32 → Int32 → gM → Option gM) (x1 : Int32) (x2 : Int32) (x3 : Int32) (M : gM) : Option gM :=
  f_X9_findLooks_b75 F k7 k19 k31 x1 x2 x3 (0 : Int32) M
def f_X9_findLooks_h31_b (F : Nat) (k7 : Int32 → gM → Option gM) (k19 : Int32 → Int32 → gM → Option gM) (k31 : Int32 → Int32 → Int32 → gM → Option gM) (x1 : Int32) (x2 : Int32) (x3 : Int32) (M : gM) : Option gM :=
  ck (ib (0 : Int32) 8) <|
  if (M 108 (0 : Int32).toNatClampNeg) ≤ x3 then
    k19 x1 (x2 + (1 : Int32)) M
  else
    ck (ib x1 20) <|
    if (M 98 x1.toNatClampNeg) = 0 then
      ck (ib x2 20) <|
      if (M 98 x2.toNatClampNeg) = (1 : Int32) then
        ck (ib x3 20) <|
        if (M 98 x3.toNatClampNeg) = (2 : Int32) then
          f_X9_findLooks_b75 F k7 k19 k31 x1 x2 x3 (1 : Int32) M
        else
          f_X9_findLooks_b74 F k7 k19 k31 x1 x2 x3 M
      else
        f_X9_findLooks_b74 F k7 k19 k31 x1 x2 x3 M
    else
      f_X9_findLooks_b74 F k7 k19 k31 x1 x2 x3 M
def f_X9_findLooks_h31 (F : Nat) (k7 : Int32 → gM → Option gM) (k19 : Int32 → Int32 → gM → Option gM) : Nat → Int32 → Int32 → Int32 → gM → Option gM
  | 0, _, _, _, _ => none
  | n + 1, x1, x2, x3, M => f_X9_findLooks_h31_b F k7 k19 (f_X9_findLooks_h31 F k7 k19 n) x1 x2 x3 M
theorem f_X9_findLooks_h31_spec (F : Nat) (k7 : Int32 → gM → Option gM) (k19 : Int32 → Int32 → gM → Option gM) (I : Int32 → Int32 → Int32 → gM → Prop) (μ : Int32 → Int32 → Int32 → gM → Nat) (φ : Int32 → Int32 → Int32 → gM → Option gM)
    (h : ∀ (self : Int32 → Int32 → Int32 → gM → Option gM) (x1 : Int32) (x2 : Int32) (x3 : Int32) (M : gM), I x1 x2 x3 M → (∀ (x1' : Int32) (x2' : Int32) (x3' : Int32) (M' : gM), I x1' x2' x3' M' → μ x1' x2' x3' M' < μ x1 x2 x3 M → self x1' x2' x3' M' = φ x1' x2' x3' M') → f_X9_findLooks_h31_b F k7 k19 self x1 x2 x3 M = φ x1 x2 x3 M) :
    ∀ (n : Nat) (x1 : Int32) (x2 : Int32) (x3 : Int32) (M : gM), I x1 x2 x3 M → μ x1 x2 x3 M < n → f_X9_findLooks_h31 F k7 k19 n x1 x2 x3 M = φ x1 x2 x3 M := by
  intro n
  induction n with
  | zero => intro x1 x2 x3 M _ hm; exact absurd hm (Nat.not_lt_zero _)
  | succ n ih => intro x1 x2 x3 M hI hm; exact h _ x1 x2 x3 M hI (fun x1' x2' x3' M' hI2 hlt => ih x1' x2' x3' M' hI2 (by omega))
def f_X9_findLooks_h19_b (F : Nat) (k7 : Int32 → gM → Option gM) (k19 : Int32 → Int32 → gM → Option gM) (x1 : Int32) (x2 : Int32) (M : gM) : Option gM :=
  ck (ib (0 : Int32) 8) <|
  if (M 108 (0 : Int32).toNatClampNeg) ≤ x2 then
    k7 (x1 + (1 : Int32)) M
  else
    f_X9_findLooks_h31 F k7 k19 F x1 x2 (0 : Int32) M
def f_X9_findLooks_h19 (F : Nat) (k7 : Int32 → gM → Option gM) : Nat → Int32 → Int32 → gM → Option gM
  | 0, _, _, _ => none
  | n + 1, x1, x2, M => f_X9_findLooks_h19_b F k7 (f_X9_findLooks_h19 F k7 n) x1 x2 M
theorem f_X9_findLooks_h19_spec (F : Nat) (k7 : Int32 → gM → Option gM) (I : Int32 → Int32 → gM → Prop) (μ : Int32 → Int32 → gM → Nat) (φ : Int32 → Int32 → gM → Option gM)
    (h : ∀ (self : Int32 → Int32 → gM → Option gM) (x1 : Int32) (x2 : Int32) (M : gM), I x1 x2 M → (∀ (x1' : Int32) (x2' : Int32) (M' : gM), I x1' x2' M' → μ x1' x2' M' < μ x1 x2 M → self x1' x2' M' = φ x1' x2' M') → f_X9_findLooks_h19_b F k7 self x1 x2 M = φ x1 x2 M) :
    ∀ (n : Nat) (x1 : Int32) (x2 : Int32) (M : gM), I x1 x2 M → μ x1 x2 M < n → f_X9_findLooks_h19 F k7 n x1 x2 M = φ x1 x2 M := by
  intro n
  induction n with
  | zero => intro x1 x2 M _ hm; exact absurd hm (Nat.not_lt_zero _)
  | succ n ih => intro x1 x2 M hI hm; exact h _ x1 x2 M hI (fun x1' x2' M' hI2 hlt => ih x1' x2' M' hI2 (by omega))
def f_X9_findLooks_h7_b (F : Nat) (k7 : Int32 → gM → Option gM) (x1 : Int32) (M : gM) : Option gM :=
  ck (ib (0 : Int32) 8) <|
  if (M 108 (0 : Int32).toNatClampNeg) ≤ x1 then
    some M
  else
    f_X9_findLooks_h19 F k7 F x1 (0 : Int32) M
def f_X9_findLooks_h7 (F : Nat) : Nat → Int32 → gM → Option gM
  | 0, _, _ => none
  | n + 1, x1, M => f_X9_findLooks_h7_b F (f_X9_findLooks_h7 F n) x1 M
theorem f_X9_findLooks_h7_spec (F : Nat)  (I : Int32 → gM → Prop) (μ : Int32 → gM → Nat) (φ : Int32 → gM → Option gM)
    (h : ∀ (self : Int32 → gM → Option gM) (x1 : Int32) (M : gM), I x1 M → (∀ (x1' : Int32) (M' : gM), I x1' M' → μ x1' M' < μ x1 M → self x1' M' = φ x1' M') → f_X9_findLooks_h7_b F self x1 M = φ x1 M) :
    ∀ (n : Nat) (x1 : Int32) (M : gM), I x1 M → μ x1 M < n → f_X9_findLooks_h7 F n x1 M = φ x1 M := by
  intro n
  induction n with
  | zero => intro x1 M _ hm; exact absurd hm (Nat.not_lt_zero _)
  | succ n ih => intro x1 M hI hm; exact h _ x1 M hI (fun x1' M' hI2 hlt => ih x1' M' hI2 (by omega))
def f_X9_findLooks (F : Nat) (M : gM) : Option gM :=
  ltM (gst M 95 21 (0 : Int32)) fun M1 =>
  f_X9_findLooks_h7 F F (0 : Int32) M1
/-! X9_goBack -/
def f_X9_goBack (F : Nat) (a0 : Int32) (M : gM) : Option (Int32 × gM) :=
  (f_X9_in a0.toInt64 (0 : Int64) (1 : Int64) M).bind fun r1 =>
  if r1 = 0 then
    some ((-1000000001 : Int32), M)
  else
    ck (ib a0 2) <|
    if (M 97 a0.toNatClampNeg) = 0 then
      some ((-1000000003 : Int32), M)
    else
      (f_X9_copy F ((80 : Int32) + ((40 : Int32) * a0)) (0 : Int32) M).bind fun r2 =>
      some ((1 : Int32), r2)
/-! X9_widthsIn -/
def f_X9_widthsIn_h4_b (F : Nat) (a0 : Int32) (M : gM) (k4 : Int32 → Int32 → Option Int32) (x2 : Int32) (x3 : Int32) : Option Int32 :=
  if (M 95 21) ≤ x3 then
    some x2
  else
    ck (ib x3 64) <|
    (f_X9_sumOf F a0 (M 110 x3.toNatClampNeg) M).bind fun r1 =>
    lt_ (x2 ||| ((1 : Int32) <<< (r1 &&& 31))) fun v2 =>
    k4 v2 (x3 + (1 : Int32))
def f_X9_widthsIn_h4 (F : Nat) (a0 : Int32) (M : gM) : Nat → Int32 → Int32 → Option Int32
  | 0, _, _ => none
  | n + 1, x2, x3 => f_X9_widthsIn_h4_b F a0 M (f_X9_widthsIn_h4 F a0 M n) x2 x3
theorem f_X9_widthsIn_h4_spec (F : Nat) (a0 : Int32) (M : gM)  (I : Int32 → Int32 → Prop) (μ : Int32 → Int32 → Nat) (φ : Int32 → Int32 → Option Int32)
    (h : ∀ (self : Int32 → Int32 → Option Int32) (x2 : Int32) (x3 : Int32), I x2 x3 → (∀ (x2' : Int32) (x3' : Int32), I x2' x3' → μ x2' x3' < μ x2 x3 → self x2' x3' = φ x2' x3') → f_X9_widthsIn_h4_b F a0 M self x2 x3 = φ x2 x3) :
    ∀ (n : Nat) (x2 : Int32) (x3 : Int32), I x2 x3 → μ x2 x3 < n → f_X9_widthsIn_h4 F a0 M n x2 x3 = φ x2 x3 := by
  intro n
  induction n with
  | zero => intro x2 x3 _ hm; exact absurd hm (Nat.not_lt_zero _)
  | succ n ih => intro x2 x3 hI hm; exact h _ x2 x3 hI (fun x2' x3' hI2 hlt => ih x2' x3' hI2 (by omega))
def f_X9_widthsIn (F : Nat) (a0 : Int32) (M : gM) : Option Int32 :=
  f_X9_widthsIn_h4 F a0 M F (0 : Int32) (0 : Int32)
/-! X9_grow -/
def f_X9_grow_h46_b (F : Nat) (a0 : Int32) (k32 : Int32 → Int32 → Int32 → Int32 → gM → Option (Int32 × gM)) (k46 : Int32 → Int32 → Int32 → Int32 → Int32 → gM → Option (Int32 × gM)) (x2 : Int32) (x3 : Int32) (x4 : Int32) (x5 : Int32) (x6 : Int32) (M : gM) : Option (Int32 × gM) :=
  if (9 : Int32) < x6 then
    ck (ib x5 160) <|
    ck (ib ((40 : Int32) + x5) 160) <|
    ltM (gst M 96 ((40 : Int32) + x5).toNatClampNeg (M 96 x5.toNatClampNeg)) fun M3 =>
    k32 x2 x3 x4 (x5 + (1 : Int32)) M3
  else
    ck (ib ((40 : Int32) + x5) 160) <|
    ltM (gst M 96 ((40 : Int32) + x5).toNatClampNeg x6) fun M4 =>
    (f_X9_widthsIn F (40 : Int32) M4).bind fun r5 =>
    (f_X9_ones F r5 M4).bind fun r6 =>
    if r6 ≤ x4 then
      k46 x2 x3 x4 x5 (x6 + (1 : Int32)) M4
    else
      k46 x5 x6 r6 x5 (x6 + (1 : Int32)) M4
def f_X9_grow_h46 (F : Nat) (a0 : Int32) (k32 : Int32 → Int32 → Int32 → Int32 → gM → Option (Int32 × gM)) : Nat → Int32 → Int32 → Int32 → Int32 → Int32 → gM → Option (Int32 × gM)
  | 0, _, _, _, _, _, _ => none
  | n + 1, x2, x3, x4, x5, x6, M => f_X9_grow_h46_b F a0 k32 (f_X9_grow_h46 F a0 k32 n) x2 x3 x4 x5 x6 M
theorem f_X9_grow_h46_spec (F : Nat) (a0 : Int32) (k32 : Int32 → Int32 → Int32 → Int32 → gM → Option (Int32 × gM)) (I : Int32 → Int32 → Int32 → Int32 → Int32 → gM → Prop) (μ : Int32 → Int32 → Int32 → Int32 → Int32 → gM → Nat) (φ : Int32 → Int32 → Int32 → Int32 → Int32 → gM → Option (Int32 × gM))
    (h : ∀ (self : Int32 → Int32 → Int32 → Int32 → Int32 → gM → Option (Int32 × gM)) (x2 : Int32) (x3 : Int32) (x4 : Int32) (x5 : Int32) (x6 : Int32) (M : gM), I x2 x3 x4 x5 x6 M → (∀ (x2' : Int32) (x3' : Int32) (x4' : Int32) (x5' : Int32) (x6' : Int32) (M' : gM), I x2' x3' x4' x5' x6' M' → μ x2' x3' x4' x5' x6' M' < μ x2 x3 x4 x5 x6 M → self x2' x3' x4' x5' x6' M' = φ x2' x3' x4' x5' x6' M') → f_X9_grow_h46_b F a0 k32 self x2 x3 x4 x5 x6 M = φ x2 x3 x4 x5 x6 M) :
    ∀ (n : Nat) (x2 : Int32) (x3 : Int32) (x4 : Int32) (x5 : Int32) (x6 : Int32) (M : gM), I x2 x3 x4 x5 x6 M → μ x2 x3 x4 x5 x6 M < n → f_X9_grow_h46 F a0 k32 n x2 x3 x4 x5 x6 M = φ x2 x3 x4 x5 x6 M := by
  intro n
  induction n with
  | zero => intro x2 x3 x4 x5 x6 M _ hm; exact absurd hm (Nat.not_lt_zero _)
  | succ n ih => intro x2 x3 x4 x5 x6 M hI hm; exact h _ x2 x3 x4 x5 x6 M hI (fun x2' x3' x4' x5' x6' M' hI2 hlt => ih x2' x3' x4' x5' x6' M' hI2 (by omega))
def f_X9_grow_h32_b (F : Nat) (a0 : Int32) (k32 : Int32 → Int32 → Int32 → Int32 → gM → Option (Int32 × gM)) (x2 : Int32) (x3 : Int32) (x4 : Int32) (x5 : Int32) (M : gM) : Option (Int32 × gM) :=
  ck (ib (0 : Int32) 8) <|
  if (M 108 (0 : Int32).toNatClampNeg) ≤ x5 then
    if 0 ≤ x2 then
      if a0 = 0 then
        some (x2, M)
      else
        if a0 = (1 : Int32) then
          some (x3, M)
        else
          some (x4, M)
    else
      some ((-1 : Int32), M)
  else
    f_X9_grow_h46 F a0 k32 F x2 x3 x4 x5 (0 : Int32) M
def f_X9_grow_h32 (F : Nat) (a0 : Int32) : Nat → Int32 → Int32 → Int32 → Int32 → gM → Option (Int32 × gM)
  | 0, _, _, _, _, _ => none
  | n + 1, x2, x3, x4, x5, M => f_X9_grow_h32_b F a0 (f_X9_grow_h32 F a0 n) x2 x3 x4 x5 M
theorem f_X9_grow_h32_spec (F : Nat) (a0 : Int32)  (I : Int32 → Int32 → Int32 → Int32 → gM → Prop) (μ : Int32 → Int32 → Int32 → Int32 → gM → Nat) (φ : Int32 → Int32 → Int32 → Int32 → gM → Option (Int32 × gM))
    (h : ∀ (self : Int32 → Int32 → Int32 → Int32 → gM → Option (Int32 × gM)) (x2 : Int32) (x3 : Int32) (x4 : Int32) (x5 : Int32) (M : gM), I x2 x3 x4 x5 M → (∀ (x2' : Int32) (x3' : Int32) (x4' : Int32) (x5' : Int32) (M' : gM), I x2' x3' x4' x5' M' → μ x2' x3' x4' x5' M' < μ x2 x3 x4 x5 M → self x2' x3' x4' x5' M' = φ x2' x3' x4' x5' M') → f_X9_grow_h32_b F a0 self x2 x3 x4 x5 M = φ x2 x3 x4 x5 M) :
    ∀ (n : Nat) (x2 : Int32) (x3 : Int32) (x4 : Int32) (x5 : Int32) (M : gM), I x2 x3 x4 x5 M → μ x2 x3 x4 x5 M < n → f_X9_grow_h32 F a0 n x2 x3 x4 x5 M = φ x2 x3 x4 x5 M := by
  intro n
  induction n with
  | zero => intro x2 x3 x4 x5 M _ hm; exact absurd hm (Nat.not_lt_zero _)
  | succ n ih => intro x2 x3 x4 x5 M hI hm; exact h _ x2 x3 x4 x5 M hI (fun x2' x3' x4' x5' M' hI2 hlt => ih x2' x3' x4' x5' M' hI2 (by omega))
def f_X9_grow (F : Nat) (a0 : Int32) (M : gM) : Option (Int32 × gM) :=
  (f_X9_in a0.toInt64 (0 : Int64) (2 : Int64) M).bind fun r1 =>
  if r1 = 0 then
    some ((-1000000002 : Int32), M)
  else
    (f_X9_copy F (0 : Int32) (40 : Int32) M).bind fun r2 =>
    f_X9_grow_h32 F a0 F (-1 : Int32) (0 : Int32) (-1 : Int32) (0 : Int32) r2
/-! X9_here -/
def f_X9_here_b38 (F : Nat) (M : gM) : Option (Int32 × gM) :=
  if (M 95 14) ≤ (M 95 15) then
    some ((-1 : Int32), M)
  else
    ck (ib (M 95 15) 400) <|
    some (M 109 (M 95 15).toNatClampNeg, M)
def f_X9_here_h0_b (F : Nat) (k0 : gM → Option (Int32 × gM)) (M : gM) : Option (Int32 × gM) :=
  if (M 95 14) ≤ (M 95 15) then
    f_X9_here_b38 F M
  else
    ck (ib (M 95 15) 400) <|
    if (M 109 (M 95 15).toNatClampNeg) = (32 : Int32) then
      ltM (gst M 95 15 ((M 95 15) + (1 : Int32))) fun M1 =>
      k0 M1
    else
      f_X9_here_b38 F M
def f_X9_here_h0 (F : Nat) : Nat → gM → Option (Int32 × gM)
  | 0, _ => none
  | n + 1, M => f_X9_here_h0_b F (f_X9_here_h0 F n) M
theorem f_X9_here_h0_spec (F : Nat)  (I : gM → Prop) (μ : gM → Nat) (φ : gM → Option (Int32 × gM))
    (h : ∀ (self : gM → Option (Int32 × gM)) (M : gM), I M → (∀ (M' : gM), I M' → μ M' < μ M → self M' = φ M') → f_X9_here_h0_b F self M = φ M) :
    ∀ (n : Nat) (M : gM), I M → μ M < n → f_X9_here_h0 F n M = φ M := by
  intro n
  induction n with
  | zero => intro M _ hm; exact absurd hm (Nat.not_lt_zero _)
  | succ n ih => intro M hI hm; exact h _ M hI (fun M' hI2 hlt => ih M' hI2 (by omega))
def f_X9_here (F : Nat) (M : gM) : Option (Int32 × gM) :=
  f_X9_here_h0 F F M
/-! X9_isPart -/
def f_X9_isPart (a0 : Int32) (M : gM) : Option Int32 :=
  ck (ib (0 : Int32) 8) <|
  (f_X9_in a0.toInt64 (0 : Int64) (((M 108 (0 : Int32).toNatClampNeg) - (1 : Int32)).toInt64) M).bind fun r1 =>
  ck (gb r1) (some r1)
