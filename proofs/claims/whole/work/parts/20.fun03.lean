/-! X9_isWord -/
def f_X9_isWord_b84 (F : Nat) (a0 : Int32) (a1 : Int32) (a2 : Int32) (a3 : Int32) (a4 : Int32) (a5 : Int32) (M : gM) (k18 : Int32 → Int32 → Option Int32) (x8 : Int32) (s0 : Int32) (s1 : Int32) : Option Int32 :=
  if s1 = s0 then
    k18 (1 : Int32) (x8 + (1 : Int32))
  else
    k18 (0 : Int32) (x8 + (1 : Int32))
def f_X9_isWord_h18_b (F : Nat) (a0 : Int32) (a1 : Int32) (a2 : Int32) (a3 : Int32) (a4 : Int32) (a5 : Int32) (M : gM) (k18 : Int32 → Int32 → Option Int32) (x7 : Int32) (x8 : Int32) : Option Int32 :=
  if a0 ≤ x8 then
    ck (gb x7) (some x7)
  else
    if x7 = 0 then
      ck (gb x7) (some x7)
    else
      ck (ib ((M 95 16) + x8) 400) <|
      if x8 = 0 then
        f_X9_isWord_b84 F a0 a1 a2 a3 a4 a5 M k18 x8 a1 (M 109 ((M 95 16) + x8).toNatClampNeg)
      else
        if x8 = (1 : Int32) then
          f_X9_isWord_b84 F a0 a1 a2 a3 a4 a5 M k18 x8 a2 (M 109 ((M 95 16) + x8).toNatClampNeg)
        else
          if x8 = (2 : Int32) then
            f_X9_isWord_b84 F a0 a1 a2 a3 a4 a5 M k18 x8 a3 (M 109 ((M 95 16) + x8).toNatClampNeg)
          else
            if x8 = (3 : Int32) then
              f_X9_isWord_b84 F a0 a1 a2 a3 a4 a5 M k18 x8 a4 (M 109 ((M 95 16) + x8).toNatClampNeg)
            else
              f_X9_isWord_b84 F a0 a1 a2 a3 a4 a5 M k18 x8 a5 (M 109 ((M 95 16) + x8).toNatClampNeg)
def f_X9_isWord_h18 (F : Nat) (a0 : Int32) (a1 : Int32) (a2 : Int32) (a3 : Int32) (a4 : Int32) (a5 : Int32) (M : gM) : Nat → Int32 → Int32 → Option Int32
  | 0, _, _ => none
  | n + 1, x7, x8 => f_X9_isWord_h18_b F a0 a1 a2 a3 a4 a5 M (f_X9_isWord_h18 F a0 a1 a2 a3 a4 a5 M n) x7 x8
theorem f_X9_isWord_h18_spec (F : Nat) (a0 : Int32) (a1 : Int32) (a2 : Int32) (a3 : Int32) (a4 : Int32) (a5 : Int32) (M : gM)  (I : Int32 → Int32 → Prop) (μ : Int32 → Int32 → Nat) (φ : Int32 → Int32 → Option Int32)
    (h : ∀ (self : Int32 → Int32 → Option Int32) (x7 : Int32) (x8 : Int32), I x7 x8 → (∀ (x7' : Int32) (x8' : Int32), I x7' x8' → μ x7' x8' < μ x7 x8 → self x7' x8' = φ x7' x8') → f_X9_isWord_h18_b F a0 a1 a2 a3 a4 a5 M self x7 x8 = φ x7 x8) :
    ∀ (n : Nat) (x7 : Int32) (x8 : Int32), I x7 x8 → μ x7 x8 < n → f_X9_isWord_h18 F a0 a1 a2 a3 a4 a5 M n x7 x8 = φ x7 x8 := by
  intro n
  induction n with
  | zero => intro x7 x8 _ hm; exact absurd hm (Nat.not_lt_zero _)
  | succ n ih => intro x7 x8 hI hm; exact h _ x7 x8 hI (fun x7' x8' hI2 hlt => ih x7' x8' hI2 (by omega))
def f_X9_isWord (F : Nat) (a0 : Int32) (a1 : Int32) (a2 : Int32) (a3 : Int32) (a4 : Int32) (a5 : Int32) (M : gM) : Option Int32 :=
  if (M 95 17) = a0 then
    f_X9_isWord_h18 F a0 a1 a2 a3 a4 a5 M F (1 : Int32) (0 : Int32)
  else
    f_X9_isWord_h18 F a0 a1 a2 a3 a4 a5 M F (0 : Int32) (0 : Int32)
/-! X9_judge -/
def f_X9_judge_b108 (F : Nat) (M : gM) (k2 : Int32 → Option Int32) (k55 : Int32 → Int32 → Int32 → Option Int32) (x1 : Int32) (x2 : Int32) (x3 : Int32) (s0 : Int32) : Option Int32 :=
  if x2 = 0 then
    ck (ib x3 40) <|
    ck (ib x1 40) <|
    if (M 119 x3.toNatClampNeg) = (M 119 x1.toNatClampNeg) then
      if s0 = 0 then
        k55 x1 (0 : Int32) (x3 + (1 : Int32))
      else
        k55 x1 (1 : Int32) (x3 + (1 : Int32))
    else
      k55 x1 (0 : Int32) (x3 + (1 : Int32))
  else
    k55 x1 (1 : Int32) (x3 + (1 : Int32))
def f_X9_judge_b103 (F : Nat) (M : gM) (k2 : Int32 → Option Int32) (k55 : Int32 → Int32 → Int32 → Option Int32) (x1 : Int32) (x2 : Int32) (x3 : Int32) : Option Int32 :=
  f_X9_judge_b108 F M k2 k55 x1 x2 x3 (1 : Int32)
def f_X9_judge_b107 (F : Nat) (M : gM) (k2 : Int32 → Option Int32) (k55 : Int32 → Int32 → Int32 → Option Int32) (x1 : Int32) (x2 : Int32) (x3 : Int32) : Option Int32 :=
  f_X9_judge_b108 F M k2 k55 x1 x2 x3 (0 : Int32)
def f_X9_judge_h55_b (F : Nat) (M : gM) (k2 : Int32 → Option Int32) (k55 : Int32 → Int32 → Int32 → Option Int32) (x1 : Int32) (x2 : Int32) (x3 : Int32) : Option Int32 :=
  if x1 ≤ x3 then
    if x2 = 0 then
      k2 (x1 + (1 : Int32))
    else
      some x1
  else
    ck (ib x1 40) <|
    ck (ib x3 40) <|
    lt_ ((M 118 x1.toNatClampNeg) - (M 118 x3.toNatClampNeg)) fun v2 =>
    if v2 = 0 then
      f_X9_judge_b103 F M k2 k55 x1 x2 x3
    else
      ck (ib (31 : Int32) 160) <|
      if (M 96 (31 : Int32).toNatClampNeg) = (1 : Int32) then
        if v2 = (1 : Int32) then
          f_X9_judge_b103 F M k2 k55 x1 x2 x3
        else
          if v2 = (-1 : Int32) then
            f_X9_judge_b103 F M k2 k55 x1 x2 x3
          else
            f_X9_judge_b107 F M k2 k55 x1 x2 x3
      else
        f_X9_judge_b107 F M k2 k55 x1 x2 x3
def f_X9_judge_h55 (F : Nat) (M : gM) (k2 : Int32 → Option Int32) : Nat → Int32 → Int32 → Int32 → Option Int32
  | 0, _, _, _ => none
  | n + 1, x1, x2, x3 => f_X9_judge_h55_b F M k2 (f_X9_judge_h55 F M k2 n) x1 x2 x3
theorem f_X9_judge_h55_spec (F : Nat) (M : gM) (k2 : Int32 → Option Int32) (I : Int32 → Int32 → Int32 → Prop) (μ : Int32 → Int32 → Int32 → Nat) (φ : Int32 → Int32 → Int32 → Option Int32)
    (h : ∀ (self : Int32 → Int32 → Int32 → Option Int32) (x1 : Int32) (x2 : Int32) (x3 : Int32), I x1 x2 x3 → (∀ (x1' : Int32) (x2' : Int32) (x3' : Int32), I x1' x2' x3' → μ x1' x2' x3' < μ x1 x2 x3 → self x1' x2' x3' = φ x1' x2' x3') → f_X9_judge_h55_b F M k2 self x1 x2 x3 = φ x1 x2 x3) :
    ∀ (n : Nat) (x1 : Int32) (x2 : Int32) (x3 : Int32), I x1 x2 x3 → μ x1 x2 x3 < n → f_X9_judge_h55 F M k2 n x1 x2 x3 = φ x1 x2 x3 := by
  intro n
  induction n with
  | zero => intro x1 x2 x3 _ hm; exact absurd hm (Nat.not_lt_zero _)
  | succ n ih => intro x1 x2 x3 hI hm; exact h _ x1 x2 x3 hI (fun x1' x2' x3' hI2 hlt => ih x1' x2' x3' hI2 (by omega))
def f_X9_judge_h2_b (F : Nat) (M : gM) (k2 : Int32 → Option Int32) (x1 : Int32) : Option Int32 :=
  if (M 95 33) ≤ x1 then
    some (-1 : Int32)
  else
    ck (ib x1 40) <|
    ck (ib x1 40) <|
    ck (ib (M 119 x1.toNatClampNeg) 20) <|
    ck (ib x1 40) <|
    ck (ib (M 119 x1.toNatClampNeg) 20) <|
    (f_X9_in ((M 118 x1.toNatClampNeg).toInt64) ((M 102 (M 119 x1.toNatClampNeg).toNatClampNeg).toInt64) ((M 103 (M 119 x1.toNatClampNeg).toNatClampNeg).toInt64) M).bind fun r1 =>
    if r1 = 0 then
      f_X9_judge_h55 F M k2 F x1 (1 : Int32) (0 : Int32)
    else
      f_X9_judge_h55 F M k2 F x1 (0 : Int32) (0 : Int32)
def f_X9_judge_h2 (F : Nat) (M : gM) : Nat → Int32 → Option Int32
  | 0, _ => none
  | n + 1, x1 => f_X9_judge_h2_b F M (f_X9_judge_h2 F M n) x1
theorem f_X9_judge_h2_spec (F : Nat) (M : gM)  (I : Int32 → Prop) (μ : Int32 → Nat) (φ : Int32 → Option Int32)
    (h : ∀ (self : Int32 → Option Int32) (x1 : Int32), I x1 → (∀ (x1' : Int32), I x1' → μ x1' < μ x1 → self x1' = φ x1') → f_X9_judge_h2_b F M self x1 = φ x1) :
    ∀ (n : Nat) (x1 : Int32), I x1 → μ x1 < n → f_X9_judge_h2 F M n x1 = φ x1 := by
  intro n
  induction n with
  | zero => intro x1 _ hm; exact absurd hm (Nat.not_lt_zero _)
  | succ n ih => intro x1 hI hm; exact h _ x1 hI (fun x1' hI2 hlt => ih x1' hI2 (by omega))
def f_X9_judge (F : Nat) (M : gM) : Option Int32 :=
  f_X9_judge_h2 F M F (0 : Int32)
/-! X9_keep -/
def f_X9_keep (F : Nat) (a0 : Int32) (M : gM) : Option (Int32 × gM) :=
  (f_X9_in a0.toInt64 (0 : Int64) (1 : Int64) M).bind fun r1 =>
  if r1 = 0 then
    some ((-1000000001 : Int32), M)
  else
    (f_X9_copy F (0 : Int32) ((80 : Int32) + ((40 : Int32) * a0)) M).bind fun r2 =>
    ck (ib a0 2) <|
    ltM (gst r2 97 a0.toNatClampNeg ((1 : Int32) &&& 1)) fun M3 =>
    some ((1 : Int32), M3)
/-! X9_law -/
def f_X9_law (a0 : Int32) (M : gM) : Option (Int32 × gM) :=
  (f_X9_in a0.toInt64 (0 : Int64) (1 : Int64) M).bind fun r1 =>
  if r1 = 0 then
    some ((-1000000002 : Int32), M)
  else
    ck (ib (31 : Int32) 160) <|
    lt_ (M 96 (31 : Int32).toNatClampNeg) fun v2 =>
    ck (ib (31 : Int32) 160) <|
    ltM (gst M 96 (31 : Int32).toNatClampNeg a0) fun M3 =>
    some (v2, M3)
/-! X9_look -/
def f_X9_look_b58 (F : Nat) (a0 : Int32) (a1 : Int32) (M : gM) (s0 : Int32) : Option Int32 :=
  ck (ib a0 64) <|
  (f_X9_sumOf F s0 (M 110 a0.toNatClampNeg) M).bind fun r3 =>
  some r3
def f_X9_look (F : Nat) (a0 : Int32) (a1 : Int32) (M : gM) : Option Int32 :=
  (f_X9_in a1.toInt64 (0 : Int64) (2 : Int64) M).bind fun r1 =>
  if r1 = 0 then
    some (-1000000002 : Int32)
  else
    (f_X9_in a0.toInt64 (0 : Int64) (((M 95 21) - (1 : Int32)).toInt64) M).bind fun r2 =>
    if r2 = 0 then
      some (-1 : Int32)
    else
      if a1 = 0 then
        ck (ib a0 64) <|
        some (M 110 a0.toNatClampNeg)
      else
        if a1 = (1 : Int32) then
          f_X9_look_b58 F a0 a1 M (0 : Int32)
        else
          f_X9_look_b58 F a0 a1 M (10 : Int32)
/-! X9_part -/
def f_X9_part (a0 : Int32) (a1 : Int32) (M : gM) : Option Int32 :=
  (f_X9_isPart a0 M).bind fun r1 =>
  if r1 = 0 then
    some (-1000000001 : Int32)
  else
    if a1 = (0 : Int32) then
      ck (ib a0 20) <|
      some (M 98 a0.toNatClampNeg)
    else
    if a1 = (1 : Int32) then
      ck (ib a0 20) <|
      some (M 99 a0.toNatClampNeg)
    else
    if a1 = (2 : Int32) then
      ck (ib a0 160) <|
      some (M 96 a0.toNatClampNeg)
    else
    if a1 = (3 : Int32) then
      ck (ib ((10 : Int32) + a0) 160) <|
      some (M 96 ((10 : Int32) + a0).toNatClampNeg)
    else
    if a1 = (4 : Int32) then
      ck (ib a0 20) <|
      some (M 102 a0.toNatClampNeg)
    else
    if a1 = (5 : Int32) then
      ck (ib a0 20) <|
      some (M 103 a0.toNatClampNeg)
    else
    if a1 = (6 : Int32) then
      ck (ib a0 20) <|
      some (M 104 a0.toNatClampNeg)
    else
    if a1 = (7 : Int32) then
      ck (ib ((20 : Int32) + a0) 160) <|
      some (M 96 ((20 : Int32) + a0).toNatClampNeg)
    else
    some (-1000000002 : Int32)
/-! X9_price -/
def f_X9_price (a0 : Int32) (a1 : Int32) (M : gM) : Option (Int32 × gM) :=
  (f_X9_isPart a0 M).bind fun r1 =>
  if r1 = 0 then
    some ((-1000000001 : Int32), M)
  else
    (f_X9_in a1.toInt64 (0 : Int64) (99 : Int64) M).bind fun r2 =>
    if r2 = 0 then
      some ((-1000000002 : Int32), M)
    else
      ck (ib ((10 : Int32) + a0) 160) <|
      lt_ (M 96 ((10 : Int32) + a0).toNatClampNeg) fun v3 =>
      ck (ib ((10 : Int32) + a0) 160) <|
      ltM (gst M 96 ((10 : Int32) + a0).toNatClampNeg a1) fun M4 =>
      some (v3, M4)
/-! X9_rentIn -/
def f_X9_rentIn_h38_b (F : Nat) (a0 : Int32) (a1 : Int32) (k28 : Int32 → Int32 → gM → Option (Int32 × gM)) (k38 : Int32 → Int32 → Int32 → gM → Option (Int32 × gM)) (x3 : Int32) (x4 : Int32) (x5 : Int32) (M : gM) : Option (Int32 × gM) :=
  ck (ib (0 : Int32) 8) <|
  if (M 108 (0 : Int32).toNatClampNeg) ≤ x5 then
    k28 x3 (x4 + (1 : Int32)) M
  else
    ck (ib x4 12) <|
    (f_X9_has (M 115 x4.toNatClampNeg) x5 M).bind fun r3 =>
    if r3 = 0 then
      lt_ (x3 + (0 : Int32)) fun v4 =>
      k38 v4 x4 (x5 + (1 : Int32)) M
    else
      ck (ib x5 20) <|
      if (M 99 x5.toNatClampNeg) = a1 then
        ck (ib ((a0 + (10 : Int32)) + x5) 160) <|
        lt_ (x3 + (M 96 ((a0 + (10 : Int32)) + x5).toNatClampNeg)) fun v6 =>
        k38 v6 x4 (x5 + (1 : Int32)) M
      else
        lt_ (x3 + (0 : Int32)) fun v5 =>
        k38 v5 x4 (x5 + (1 : Int32)) M
def f_X9_rentIn_h38 (F : Nat) (a0 : Int32) (a1 : Int32) (k28 : Int32 → Int32 → gM → Option (Int32 × gM)) : Nat → Int32 → Int32 → Int32 → gM → Option (Int32 × gM)
  | 0, _, _, _, _ => none
  | n + 1, x3, x4, x5, M => f_X9_rentIn_h38_b F a0 a1 k28 (f_X9_rentIn_h38 F a0 a1 k28 n) x3 x4 x5 M
theorem f_X9_rentIn_h38_spec (F : Nat) (a0 : Int32) (a1 : Int32) (k28 : Int32 → Int32 → gM → Option (Int32 × gM)) (I : Int32 → Int32 → Int32 → gM → Prop) (μ : Int32 → Int32 → Int32 → gM → Nat) (φ : Int32 → Int32 → Int32 → gM → Option (Int32 × gM))
    (h : ∀ (self : Int32 → Int32 → Int32 → gM → Option (Int32 × gM)) (x3 : Int32) (x4 : Int32) (x5 : Int32) (M : gM), I x3 x4 x5 M → (∀ (x3' : Int32) (x4' : Int32) (x5' : Int32) (M' : gM), I x3' x4' x5' M' → μ x3' x4' x5' M' < μ x3 x4 x5 M → self x3' x4' x5' M' = φ x3' x4' x5' M') → f_X9_rentIn_h38_b F a0 a1 k28 self x3 x4 x5 M = φ x3 x4 x5 M) :
    ∀ (n : Nat) (x3 : Int32) (x4 : Int32) (x5 : Int32) (M : gM), I x3 x4 x5 M → μ x3 x4 x5 M < n → f_X9_rentIn_h38 F a0 a1 k28 n x3 x4 x5 M = φ x3 x4 x5 M := by
  intro n
  induction n with
  | zero => intro x3 x4 x5 M _ hm; exact absurd hm (Nat.not_lt_zero _)
  | succ n ih => intro x3 x4 x5 M hI hm; exact h _ x3 x4 x5 M hI (fun x3' x4' x5' M' hI2 hlt => ih x3' x4' x5' M' hI2 (by omega))
def f_X9_rentIn_h28_b (F : Nat) (a0 : Int32) (a1 : Int32) (k28 : Int32 → Int32 → gM → Option (Int32 × gM)) (x3 : Int32) (x4 : Int32) (M : gM) : Option (Int32 × gM) :=
  if (12 : Int32) ≤ x4 then
    some (x3, M)
  else
    f_X9_rentIn_h38 F a0 a1 k28 F x3 x4 (0 : Int32) M
def f_X9_rentIn_h28 (F : Nat) (a0 : Int32) (a1 : Int32) : Nat → Int32 → Int32 → gM → Option (Int32 × gM)
  | 0, _, _, _ => none
  | n + 1, x3, x4, M => f_X9_rentIn_h28_b F a0 a1 (f_X9_rentIn_h28 F a0 a1 n) x3 x4 M
theorem f_X9_rentIn_h28_spec (F : Nat) (a0 : Int32) (a1 : Int32)  (I : Int32 → Int32 → gM → Prop) (μ : Int32 → Int32 → gM → Nat) (φ : Int32 → Int32 → gM → Option (Int32 × gM))
    (h : ∀ (self : Int32 → Int32 → gM → Option (Int32 × gM)) (x3 : Int32) (x4 : Int32) (M : gM), I x3 x4 M → (∀ (x3' : Int32) (x4' : Int32) (M' : gM), I x3' x4' M' → μ x3' x4' M' < μ x3 x4 M → self x3' x4' M' = φ x3' x4' M') → f_X9_rentIn_h28_b F a0 a1 self x3 x4 M = φ x3 x4 M) :
    ∀ (n : Nat) (x3 : Int32) (x4 : Int32) (M : gM), I x3 x4 M → μ x3 x4 M < n → f_X9_rentIn_h28 F a0 a1 n x3 x4 M = φ x3 x4 M := by
  intro n
  induction n with
  | zero => intro x3 x4 M _ hm; exact absurd hm (Nat.not_lt_zero _)
  | succ n ih => intro x3 x4 M hI hm; exact h _ x3 x4 M hI (fun x3' x4' M' hI2 hlt => ih x3' x4' M' hI2 (by omega))
def f_X9_rentIn (F : Nat) (a0 : Int32) (a1 : Int32) (M : gM) : Option (Int32 × gM) :=
  (f_X9_findLeast F a0 M).bind fun r1 =>
  ck (ib (0 : Int32) 13312) <|
  if (r1 112 (0 : Int32).toNatClampNeg) < (1000000 : Int32) then
    (f_X9_findWorn F a0 r1).bind fun r2 =>
    f_X9_rentIn_h28 F a0 a1 F (0 : Int32) (0 : Int32) r2
  else
    some ((0 : Int32), r1)
/-! X9_raise -/
def f_X9_raise_b93 (F : Nat) (a0 : Int32) (a1 : Int32) (k38 : Int32 → Int32 → Int32 → gM → Option (Int32 × gM)) (k55 : Int32 → Int32 → Int32 → Int32 → gM → Option (Int32 × gM)) (x3 : Int32) (x4 : Int32) (x5 : Int32) (x6 : Int32) (s0 : Int32) (s1 : Int32) (M : gM) : Option (Int32 × gM) :=
  lt_ (s1 + s0) fun v7 =>
  if v7 ≤ (99 : Int32) then
    ck (ib ((50 : Int32) + x6) 160) <|
    ltM (gst M 96 ((50 : Int32) + x6).toNatClampNeg v7) fun M8 =>
    k55 x3 x4 x5 (x6 + (1 : Int32)) M8
  else
    ck (ib ((50 : Int32) + x6) 160) <|
    ltM (gst M 96 ((50 : Int32) + x6).toNatClampNeg (99 : Int32)) fun M9 =>
    k55 x3 x4 x5 (x6 + (1 : Int32)) M9
def f_X9_raise_h55_b (F : Nat) (a0 : Int32) (a1 : Int32) (k38 : Int32 → Int32 → Int32 → gM → Option (Int32 × gM)) (k55 : Int32 → Int32 → Int32 → Int32 → gM → Option (Int32 × gM)) (x3 : Int32) (x4 : Int32) (x5 : Int32) (x6 : Int32) (M : gM) : Option (Int32 × gM) :=
  ck (ib (0 : Int32) 8) <|
  if (M 108 (0 : Int32).toNatClampNeg) ≤ x6 then
    (f_X9_rentIn F (40 : Int32) a0 M).bind fun r5 =>
    lt_ r5.1 fun v6 =>
    if v6 ≤ x4 then
      k38 x3 x4 (x5 + (1 : Int32)) r5.2
    else
      k38 x5 v6 (x5 + (1 : Int32)) r5.2
  else
    ck (ib ((10 : Int32) + x6) 160) <|
    ck (ib x6 20) <|
    if (M 99 x6.toNatClampNeg) = a0 then
      f_X9_raise_b93 F a0 a1 k38 k55 x3 x4 x5 x6 x5 (M 96 ((10 : Int32) + x6).toNatClampNeg) M
    else
      f_X9_raise_b93 F a0 a1 k38 k55 x3 x4 x5 x6 (0 : Int32) (M 96 ((10 : Int32) + x6).toNatClampNeg) M
def f_X9_raise_h55 (F : Nat) (a0 : Int32) (a1 : Int32) (k38 : Int32 → Int32 → Int32 → gM → Option (Int32 × gM)) : Nat → Int32 → Int32 → Int32 → Int32 → gM → Option (Int32 × gM)
  | 0, _, _, _, _, _ => none
  | n + 1, x3, x4, x5, x6, M => f_X9_raise_h55_b F a0 a1 k38 (f_X9_raise_h55 F a0 a1 k38 n) x3 x4 x5 x6 M
theorem f_X9_raise_h55_spec (F : Nat) (a0 : Int32) (a1 : Int32) (k38 : Int32 → Int32 → Int32 → gM → Option (Int32 × gM)) (I : Int32 → Int32 → Int32 → Int32 → gM → Prop) (μ : Int32 → Int32 → Int32 → Int32 → gM → Nat) (φ : Int32 → Int32 → Int32 → Int32 → gM → Option (Int32 × gM))
    (h : ∀ (self : Int32 → Int32 → Int32 → Int32 → gM → Option (Int32 × gM)) (x3 : Int32) (x4 : Int32) (x5 : Int32) (x6 : Int32) (M : gM), I x3 x4 x5 x6 M → (∀ (x3' : Int32) (x4' : Int32) (x5' : Int32) (x6' : Int32) (M' : gM), I x3' x4' x5' x6' M' → μ x3' x4' x5' x6' M' < μ x3 x4 x5 x6 M → self x3' x4' x5' x6' M' = φ x3' x4' x5' x6' M') → f_X9_raise_h55_b F a0 a1 k38 self x3 x4 x5 x6 M = φ x3 x4 x5 x6 M) :
    ∀ (n : Nat) (x3 : Int32) (x4 : Int32) (x5 : Int32) (x6 : Int32) (M : gM), I x3 x4 x5 x6 M → μ x3 x4 x5 x6 M < n → f_X9_raise_h55 F a0 a1 k38 n x3 x4 x5 x6 M = φ x3 x4 x5 x6 M := by
  intro n
  induction n with
  | zero => intro x3 x4 x5 x6 M _ hm; exact absurd hm (Nat.not_lt_zero _)
  | succ n ih => intro x3 x4 x5 x6 M hI hm; exact h _ x3 x4 x5 x6 M hI (fun x3' x4' x5' x6' M' hI2 hlt => ih x3' x4' x5' x6' M' hI2 (by omega))
def f_X9_raise_h38_b (F : Nat) (a0 : Int32) (a1 : Int32) (k38 : Int32 → Int32 → Int32 → gM → Option (Int32 × gM)) (x3 : Int32) (x4 : Int32) (x5 : Int32) (M : gM) : Option (Int32 × gM) :=
  if (20 : Int32) < x5 then
    if a1 = 0 then
      some (x3, M)
    else
      some (x4, M)
  else
    (f_X9_copy F (0 : Int32) (40 : Int32) M).bind fun r4 =>
    f_X9_raise_h55 F a0 a1 k38 F x3 x4 x5 (0 : Int32) r4
def f_X9_raise_h38 (F : Nat) (a0 : Int32) (a1 : Int32) : Nat → Int32 → Int32 → Int32 → gM → Option (Int32 × gM)
  | 0, _, _, _, _ => none
  | n + 1, x3, x4, x5, M => f_X9_raise_h38_b F a0 a1 (f_X9_raise_h38 F a0 a1 n) x3 x4 x5 M
theorem f_X9_raise_h38_spec (F : Nat) (a0 : Int32) (a1 : Int32)  (I : Int32 → Int32 → Int32 → gM → Prop) (μ : Int32 → Int32 → Int32 → gM → Nat) (φ : Int32 → Int32 → Int32 → gM → Option (Int32 × gM))
    (h : ∀ (self : Int32 → Int32 → Int32 → gM → Option (Int32 × gM)) (x3 : Int32) (x4 : Int32) (x5 : Int32) (M : gM), I x3 x4 x5 M → (∀ (x3' : Int32) (x4' : Int32) (x5' : Int32) (M' : gM), I x3' x4' x5' M' → μ x3' x4' x5' M' < μ x3 x4 x5 M → self x3' x4' x5' M' = φ x3' x4' x5' M') → f_X9_raise_h38_b F a0 a1 self x3 x4 x5 M = φ x3 x4 x5 M) :
    ∀ (n : Nat) (x3 : Int32) (x4 : Int32) (x5 : Int32) (M : gM), I x3 x4 x5 M → μ x3 x4 x5 M < n → f_X9_raise_h38 F a0 a1 n x3 x4 x5 M = φ x3 x4 x5 M := by
  intro n
  induction n with
  | zero => intro x3 x4 x5 M _ hm; exact absurd hm (Nat.not_lt_zero _)
  | succ n ih => intro x3 x4 x5 M hI hm; exact h _ x3 x4 x5 M hI (fun x3' x4' x5' M' hI2 hlt => ih x3' x4' x5' M' hI2 (by omega))
def f_X9_raise (F : Nat) (a0 : Int32) (a1 : Int32) (M : gM) : Option (Int32 × gM) :=
  (f_X9_in a0.toInt64 (0 : Int64) (3 : Int64) M).bind fun r1 =>
  if r1 = 0 then
    some ((-1000000002 : Int32), M)
  else
    (f_X9_in a1.toInt64 (0 : Int64) (1 : Int64) M).bind fun r2 =>
    if r2 = 0 then
      some ((-1000000002 : Int32), M)
    else
      (f_X9_findAllSets F (0 : Int32) M).bind fun r3 =>
      f_X9_raise_h38 F a0 a1 F (0 : Int32) (-1 : Int32) (0 : Int32) r3
/-! X9_rent -/
def f_X9_rent (F : Nat) (a0 : Int32) (M : gM) : Option (Int32 × gM) :=
  (f_X9_in a0.toInt64 (0 : Int64) (3 : Int64) M).bind fun r1 =>
  if r1 = 0 then
    some ((-1000000002 : Int32), M)
  else
    (f_X9_findAllSets F (0 : Int32) M).bind fun r2 =>
    (f_X9_rentIn F (0 : Int32) a0 r2).bind fun r3 =>
    some (r3.1, r3.2)
/-! X9_scene -/
def f_X9_scene (a0 : Int32) (a1 : Int32) (M : gM) : Option Int32 :=
  (f_X9_isScene a0 M).bind fun r1 =>
  if r1 = 0 then
    some (-1000000001 : Int32)
  else
    if a1 = 0 then
      ck (ib a0 16) <|
      some (M 105 a0.toNatClampNeg)
    else
      if a1 = (1 : Int32) then
        ck (ib a0 16) <|
        some (M 106 a0.toNatClampNeg)
      else
        if a1 = (2 : Int32) then
          ck (ib a0 16) <|
          some (M 107 a0.toNatClampNeg)
        else
          some (-1000000002 : Int32)
/-! X9_see -/
def f_X9_see (a0 : Int32) (a1 : Int32) (M : gM) : Option (Int32 × gM) :=
  (f_X9_in a0.toInt64 (0 : Int64) (11 : Int64) M).bind fun r1 =>
  if r1 = 0 then
    some ((-1000000002 : Int32), M)
  else
    (f_X9_in a1.toInt64 (0 : Int64) (27 : Int64) M).bind fun r2 =>
    if r2 = 0 then
      some ((-1000000002 : Int32), M)
    else
      if (M 95 30) = (20 : Int32) then
        some ((-1000000004 : Int32), M)
      else
        ck (ib (M 95 30) 20) <|
        ltM (gst M 116 (M 95 30).toNatClampNeg a0) fun M3 =>
        ck (ib (M3 95 30) 20) <|
        ltM (gst M3 117 (M3 95 30).toNatClampNeg a1) fun M4 =>
        ltM (gst M4 95 30 ((M4 95 30) + (1 : Int32))) fun M5 =>
        some (M5 95 30, M5)
/-! X9_seed -/
def f_X9_seed (a0 : Int32) (M : gM) : Option (Int32 × gM) :=
  if 0 ≤ a0 then
    ck (ib (33 : Int32) 160) <|
    lt_ (M 96 (33 : Int32).toNatClampNeg) fun v1 =>
    ck (ib (33 : Int32) 160) <|
    ltM (gst M 96 (33 : Int32).toNatClampNeg a0) fun M2 =>
    some (v1, M2)
  else
    some ((-1000000002 : Int32), M)
/-! X9_seenBy -/
def f_X9_seenBy_h8_b (F : Nat) (a0 : Int32) (a1 : Int32) (M : gM) (k8 : Int32 → Int32 → Int32 → Option Int32) (x3 : Int32) (x4 : Int32) (x5 : Int32) : Option Int32 :=
  if (M 95 21) ≤ x5 then
    if x3 = 0 then
      some x3
    else
      if a1 = 0 then
        some x3
      else
        some x4
  else
    ck (ib x5 64) <|
    (f_X9_sumOf F (0 : Int32) (M 110 x5.toNatClampNeg) M).bind fun r1 =>
    ck (ib a0 20) <|
    if r1 = (M 117 a0.toNatClampNeg) then
      ck (ib x5 64) <|
      ck (ib a0 20) <|
      (f_X9_isFree F (M 110 x5.toNatClampNeg) (M 116 a0.toNatClampNeg) M).bind fun r2 =>
      if r2 = 0 then
        k8 x3 x4 (x5 + (1 : Int32))
      else
        ck (ib x5 64) <|
        lt_ (x3 ||| (M 110 x5.toNatClampNeg)) fun v3 =>
        ck (ib x5 64) <|
        lt_ (x4 &&& (M 110 x5.toNatClampNeg)) fun v4 =>
        k8 v3 v4 (x5 + (1 : Int32))
    else
      k8 x3 x4 (x5 + (1 : Int32))
def f_X9_seenBy_h8 (F : Nat) (a0 : Int32) (a1 : Int32) (M : gM) : Nat → Int32 → Int32 → Int32 → Option Int32
  | 0, _, _, _ => none
  | n + 1, x3, x4, x5 => f_X9_seenBy_h8_b F a0 a1 M (f_X9_seenBy_h8 F a0 a1 M n) x3 x4 x5
theorem f_X9_seenBy_h8_spec (F : Nat) (a0 : Int32) (a1 : Int32) (M : gM)  (I : Int32 → Int32 → Int32 → Prop) (μ : Int32 → Int32 → Int32 → Nat) (φ : Int32 → Int32 → Int32 → Option Int32)
    (h : ∀ (self : Int32 → Int32 → Int32 → Option Int32) (x3 : Int32) (x4 : Int32) (x5 : Int32), I x3 x4 x5 → (∀ (x3' : Int32) (x4' : Int32) (x5' : Int32), I x3' x4' x5' → μ x3' x4' x5' < μ x3 x4 x5 → self x3' x4' x5' = φ x3' x4' x5') → f_X9_seenBy_h8_b F a0 a1 M self x3 x4 x5 = φ x3 x4 x5) :
    ∀ (n : Nat) (x3 : Int32) (x4 : Int32) (x5 : Int32), I x3 x4 x5 → μ x3 x4 x5 < n → f_X9_seenBy_h8 F a0 a1 M n x3 x4 x5 = φ x3 x4 x5 := by
  intro n
  induction n with
  | zero => intro x3 x4 x5 _ hm; exact absurd hm (Nat.not_lt_zero _)
  | succ n ih => intro x3 x4 x5 hI hm; exact h _ x3 x4 x5 hI (fun x3' x4' x5' hI2 hlt => ih x3' x4' x5' hI2 (by omega))
def f_X9_seenBy (F : Nat) (a0 : Int32) (a1 : Int32) (M : gM) : Option Int32 :=
  f_X9_seenBy_h8 F a0 a1 M F (0 : Int32) (-1 : Int32) (0 : Int32)
/-! X9_seen -/
def f_X9_seen (F : Nat) (a0 : Int32) (a1 : Int32) (M : gM) : Option Int32 :=
  (f_X9_in a1.toInt64 (0 : Int64) (1 : Int64) M).bind fun r1 =>
  if r1 = 0 then
    some (-1000000002 : Int32)
  else
    (f_X9_in a0.toInt64 (0 : Int64) (((M 95 30) - (1 : Int32)).toInt64) M).bind fun r2 =>
    if r2 = 0 then
      some (-1 : Int32)
    else
      (f_X9_seenBy F a0 a1 M).bind fun r3 =>
      some r3
/-! X9_strange -/
def f_X9_strange_h2_b (F : Nat) (M : gM) (k2 : Int32 → Option Int32) (x1 : Int32) : Option Int32 :=
  if (M 95 30) ≤ x1 then
    some (-1 : Int32)
  else
    (f_X9_seenBy F x1 (0 : Int32) M).bind fun r1 =>
    if r1 = 0 then
      some x1
    else
      k2 (x1 + (1 : Int32))
def f_X9_strange_h2 (F : Nat) (M : gM) : Nat → Int32 → Option Int32
  | 0, _ => none
  | n + 1, x1 => f_X9_strange_h2_b F M (f_X9_strange_h2 F M n) x1
theorem f_X9_strange_h2_spec (F : Nat) (M : gM)  (I : Int32 → Prop) (μ : Int32 → Nat) (φ : Int32 → Option Int32)
    (h : ∀ (self : Int32 → Option Int32) (x1 : Int32), I x1 → (∀ (x1' : Int32), I x1' → μ x1' < μ x1 → self x1' = φ x1') → f_X9_strange_h2_b F M self x1 = φ x1) :
    ∀ (n : Nat) (x1 : Int32), I x1 → μ x1 < n → f_X9_strange_h2 F M n x1 = φ x1 := by
  intro n
  induction n with
  | zero => intro x1 _ hm; exact absurd hm (Nat.not_lt_zero _)
  | succ n ih => intro x1 hI hm; exact h _ x1 hI (fun x1' hI2 hlt => ih x1' hI2 (by omega))
def f_X9_strange (F : Nat) (M : gM) : Option Int32 :=
  f_X9_strange_h2 F M F (0 : Int32)
/-! X9_want -/
def f_X9_want_b21 (a0 : Int32) (a1 : Int32) (a2 : Int32) (M : gM) : Option (Int32 × gM) :=
  if (M 95 18) = 0 then
    some ((1 : Int32), M)
  else
    some ((0 : Int32), M)
def f_X9_want (a0 : Int32) (a1 : Int32) (a2 : Int32) (M : gM) : Option (Int32 × gM) :=
  if a0 = 0 then
    if (M 95 18) = 0 then
      ltM (gst M 95 18 a1) fun M1 =>
      ltM (gst M1 95 19 a2) fun M2 =>
      f_X9_want_b21 a0 a1 a2 M2
    else
      f_X9_want_b21 a0 a1 a2 M
  else
    f_X9_want_b21 a0 a1 a2 M
/-! X9_takeNumber -/
def f_X9_takeNumber_b160 (F : Nat) (a0 : Int32) (a1 : Int32) (x4 : Int32) (s0 : Int32) (M : gM) : Option (Int32 × gM) :=
  (f_X9_want s0 (2 : Int32) (M 95 16) M).bind fun r6 =>
  lt_ r6.1 fun v7 =>
  some (x4, r6.2)
def f_X9_takeNumber_b159 (F : Nat) (a0 : Int32) (a1 : Int32) (x4 : Int32) (M : gM) : Option (Int32 × gM) :=
  f_X9_takeNumber_b160 F a0 a1 x4 (0 : Int32) M
def f_X9_takeNumber_b128 (F : Nat) (a0 : Int32) (a1 : Int32) (x4 : Int32) (M : gM) : Option (Int32 × gM) :=
  if (4 : Int32) ≤ ((M 95 15) - (M 95 16)) then
    f_X9_takeNumber_b159 F a0 a1 x4 M
  else
    (f_X9_in x4.toInt64 a0.toInt64 a1.toInt64 M).bind fun r8 =>
    if r8 = 0 then
      f_X9_takeNumber_b159 F a0 a1 x4 M
    else
      f_X9_takeNumber_b160 F a0 a1 x4 (1 : Int32) M
def f_X9_takeNumber_b113 (F : Nat) (a0 : Int32) (a1 : Int32) (k50 : Int32 → gM → Option (Int32 × gM)) (s0 : Int32) (M : gM) : Option (Int32 × gM) :=
  ltM (gst M 95 15 ((M 95 15) + (1 : Int32))) fun M10 =>
  k50 s0 M10
def f_X9_takeNumber_h50_b (F : Nat) (a0 : Int32) (a1 : Int32) (k50 : Int32 → gM → Option (Int32 × gM)) (x4 : Int32) (M : gM) : Option (Int32 × gM) :=
  if (M 95 14) ≤ (M 95 15) then
    f_X9_takeNumber_b128 F a0 a1 x4 M
  else
    ck (ib (M 95 15) 400) <|
    (f_X9_in ((M 109 (M 95 15).toNatClampNeg).toInt64) (48 : Int64) (57 : Int64) M).bind fun r9 =>
    if r9 = 0 then
      f_X9_takeNumber_b128 F a0 a1 x4 M
    else
      if x4 ≤ (99999 : Int32) then
        ck (ib (M 95 15) 400) <|
        f_X9_takeNumber_b113 F a0 a1 k50 ((((10 : Int32) * x4) + (M 109 (M 95 15).toNatClampNeg)) - (48 : Int32)) M
      else
        f_X9_takeNumber_b113 F a0 a1 k50 x4 M
def f_X9_takeNumber_h50 (F : Nat) (a0 : Int32) (a1 : Int32) : Nat → Int32 → gM → Option (Int32 × gM)
  | 0, _, _ => none
  | n + 1, x4, M => f_X9_takeNumber_h50_b F a0 a1 (f_X9_takeNumber_h50 F a0 a1 n) x4 M
theorem f_X9_takeNumber_h50_spec (F : Nat) (a0 : Int32) (a1 : Int32)  (I : Int32 → gM → Prop) (μ : Int32 → gM → Nat) (φ : Int32 → gM → Option (Int32 × gM))
    (h : ∀ (self : Int32 → gM → Option (Int32 × gM)) (x4 : Int32) (M : gM), I x4 M → (∀ (x4' : Int32) (M' : gM), I x4' M' → μ x4' M' < μ x4 M → self x4' M' = φ x4' M') → f_X9_takeNumber_h50_b F a0 a1 self x4 M = φ x4 M) :
    ∀ (n : Nat) (x4 : Int32) (M : gM), I x4 M → μ x4 M < n → f_X9_takeNumber_h50 F a0 a1 n x4 M = φ x4 M := by
  intro n
  induction n with
  | zero => intro x4 M _ hm; exact absurd hm (Nat.not_lt_zero _)
  | succ n ih => intro x4 M hI hm; exact h _ x4 M hI (fun x4' M' hI2 hlt => ih x4' M' hI2 (by omega))
def f_X9_takeNumber (F : Nat) (a0 : Int32) (a1 : Int32) (M : gM) : Option (Int32 × gM) :=
  if (M 95 18) ≤ 0 then
    (f_X9_here F M).bind fun r1 =>
    lt_ r1.1 fun v2 =>
    ltM (gst r1.2 95 16 (r1.2 95 15)) fun M3 =>
    (f_X9_in v2.toInt64 (48 : Int64) (57 : Int64) M3).bind fun r4 =>
    (f_X9_want r4 (1 : Int32) (M3 95 15) M3).bind fun r5 =>
    if r5.1 = 0 then
      some ((0 : Int32), r5.2)
    else
      f_X9_takeNumber_h50 F a0 a1 F (0 : Int32) r5.2
  else
    some ((0 : Int32), M)
/-! X9_takeClash -/
def f_X9_takeClash_b62 (F : Nat) (x1 : Int32) (x2 : Int32) (s0 : Int32) (M : gM) : Option gM :=
  (f_X9_want s0 (4 : Int32) (M 95 16) M).bind fun r5 =>
  if r5.1 = 0 then
    some r5.2
  else
    ck (ib ((10 : Int32) + x1) 20) <|
    ck (ib ((10 : Int32) + x1) 20) <|
    ltM (gst r5.2 104 ((10 : Int32) + x1).toNatClampNeg ((r5.2 104 ((10 : Int32) + x1).toNatClampNeg) ||| ((1 : Int32) <<< (x2 &&& 31)))) fun M6 =>
    ck (ib ((10 : Int32) + x2) 20) <|
    ck (ib ((10 : Int32) + x2) 20) <|
    ltM (gst M6 104 ((10 : Int32) + x2).toNatClampNeg ((M6 104 ((10 : Int32) + x2).toNatClampNeg) ||| ((1 : Int32) <<< (x1 &&& 31)))) fun M7 =>
    ck (ib (5 : Int32) 8) <|
    ck (ib (5 : Int32) 8) <|
    ltM (gst M7 108 (5 : Int32).toNatClampNeg ((M7 108 (5 : Int32).toNatClampNeg) + (1 : Int32))) fun M8 =>
    some M8
def f_X9_takeClash_b61 (F : Nat) (x1 : Int32) (x2 : Int32) (M : gM) : Option gM :=
  f_X9_takeClash_b62 F x1 x2 (0 : Int32) M
def f_X9_takeClash (F : Nat) (M : gM) : Option gM :=
  ck (ib (4 : Int32) 8) <|
  (f_X9_takeNumber F (0 : Int32) ((M 108 (4 : Int32).toNatClampNeg) - (1 : Int32)) M).bind fun r1 =>
  lt_ r1.1 fun v2 =>
  ck (ib (4 : Int32) 8) <|
  (f_X9_takeNumber F (0 : Int32) ((r1.2 108 (4 : Int32).toNatClampNeg) - (1 : Int32)) r1.2).bind fun r3 =>
  lt_ r3.1 fun v4 =>
  if (r3.2 95 18) = 0 then
    if v2 = v4 then
      f_X9_takeClash_b61 F v2 v4 r3.2
    else
      ck (ib ((10 : Int32) + v2) 20) <|
      (f_X9_has (r3.2 104 ((10 : Int32) + v2).toNatClampNeg) v4 r3.2).bind fun r9 =>
      if r9 = 0 then
        f_X9_takeClash_b62 F v2 v4 (1 : Int32) r3.2
      else
        f_X9_takeClash_b61 F v2 v4 r3.2
  else
    some r3.2
/-! X9_takeWord -/
def f_X9_takeWord_b59 (F : Nat) (M : gM) : Option gM :=
  ltM (gst M 95 17 ((M 95 15) - (M 95 16))) fun M4 =>
  some M4
def f_X9_takeWord_h13_b (F : Nat) (k13 : gM → Option gM) (M : gM) : Option gM :=
  if (M 95 14) ≤ (M 95 15) then
    f_X9_takeWord_b59 F M
  else
    ck (ib (M 95 15) 400) <|
    (f_X9_in ((M 109 (M 95 15).toNatClampNeg).toInt64) (97 : Int64) (122 : Int64) M).bind fun r5 =>
    if r5 = 0 then
      f_X9_takeWord_b59 F M
    else
      ltM (gst M 95 15 ((M 95 15) + (1 : Int32))) fun M6 =>
      k13 M6
def f_X9_takeWord_h13 (F : Nat) : Nat → gM → Option gM
  | 0, _ => none
  | n + 1, M => f_X9_takeWord_h13_b F (f_X9_takeWord_h13 F n) M
theorem f_X9_takeWord_h13_spec (F : Nat)  (I : gM → Prop) (μ : gM → Nat) (φ : gM → Option gM)
    (h : ∀ (self : gM → Option gM) (M : gM), I M → (∀ (M' : gM), I M' → μ M' < μ M → self M' = φ M') → f_X9_takeWord_h13_b F self M = φ M) :
    ∀ (n : Nat) (M : gM), I M → μ M < n → f_X9_takeWord_h13 F n M = φ M := by
  intro n
  induction n with
  | zero => intro M _ hm; exact absurd hm (Nat.not_lt_zero _)
  | succ n ih => intro M hI hm; exact h _ M hI (fun M' hI2 hlt => ih M' hI2 (by omega))
def f_X9_takeWord (F : Nat) (M : gM) : Option gM :=
  (f_X9_here F M).bind fun r1 =>
  lt_ r1.1 fun v2 =>
  ltM (gst r1.2 95 16 (r1.2 95 15)) fun M3 =>
  f_X9_takeWord_h13 F F M3
/-! X9_takePart -/
def f_X9_takePart_b194 (F : Nat) (x1 : Int32) (s0 : Int32) (M : gM) : Option gM :=
  (f_X9_want s0 (4 : Int32) (M 95 16) M).bind fun r19 =>
  lt_ r19.1 fun v20 =>
  ck (ib x1 20) <|
  ltM (gst r19.2 104 x1.toNatClampNeg (0 : Int32)) fun M21 =>
  ck (ib (4 : Int32) 8) <|
  ck (ib (4 : Int32) 8) <|
  ltM (gst M21 108 (4 : Int32).toNatClampNeg ((M21 108 (4 : Int32).toNatClampNeg) + (1 : Int32))) fun M22 =>
  some M22
def f_X9_takePart_b100 (F : Nat) (x1 : Int32) (s0 : Int32) (M : gM) : Option gM :=
  (f_X9_want s0 (1 : Int32) (M 95 16) M).bind fun r7 =>
  lt_ r7.1 fun v8 =>
  (f_X9_takeNumber F (0 : Int32) (3 : Int32) r7.2).bind fun r9 =>
  ck (ib x1 20) <|
  ltM (gst r9.2 99 x1.toNatClampNeg r9.1) fun M10 =>
  (f_X9_takeNumber F (0 : Int32) (9 : Int32) M10).bind fun r11 =>
  ck (ib x1 20) <|
  ltM (gst r11.2 100 x1.toNatClampNeg r11.1) fun M12 =>
  (f_X9_takeNumber F (0 : Int32) (99 : Int32) M12).bind fun r13 =>
  ck (ib x1 20) <|
  ltM (gst r13.2 101 x1.toNatClampNeg r13.1) fun M14 =>
  (f_X9_takeNumber F (0 : Int32) (11 : Int32) M14).bind fun r15 =>
  ck (ib x1 20) <|
  ltM (gst r15.2 102 x1.toNatClampNeg r15.1) fun M16 =>
  (f_X9_takeNumber F (0 : Int32) (11 : Int32) M16).bind fun r17 =>
  ck (ib x1 20) <|
  ltM (gst r17.2 103 x1.toNatClampNeg r17.1) fun M18 =>
  ck (ib x1 20) <|
  ck (ib x1 20) <|
  if (M18 103 x1.toNatClampNeg) < (M18 102 x1.toNatClampNeg) then
    f_X9_takePart_b194 F x1 (0 : Int32) M18
  else
    f_X9_takePart_b194 F x1 (1 : Int32) M18
def f_X9_takePart_b84 (F : Nat) (x1 : Int32) (s0 : Int32) (s1 : Int32) (M : gM) : Option gM :=
  ck (ib s1 20) <|
  ltM (gst M 98 s1.toNatClampNeg s0) fun M6 =>
  ck (ib x1 20) <|
  if (M6 98 x1.toNatClampNeg) < 0 then
    f_X9_takePart_b100 F x1 (0 : Int32) M6
  else
    f_X9_takePart_b100 F x1 (1 : Int32) M6
def f_X9_takePart (F : Nat) (M : gM) : Option gM :=
  (f_X9_takeWord F M).bind fun r1 =>
  ck (ib (4 : Int32) 8) <|
  lt_ ((10 : Int32) + (r1 108 (4 : Int32).toNatClampNeg)) fun v2 =>
  (f_X9_isWord F (4 : Int32) (98 : Int32) (114 : Int32) (111 : Int32) (119 : Int32) (0 : Int32) r1).bind fun r3 =>
  if r3 = 0 then
    (f_X9_isWord F (4 : Int32) (101 : Int32) (121 : Int32) (101 : Int32) (115 : Int32) (0 : Int32) r1).bind fun r4 =>
    if r4 = 0 then
      (f_X9_isWord F (5 : Int32) (109 : Int32) (111 : Int32) (117 : Int32) (116 : Int32) (104 : Int32) r1).bind fun r5 =>
      if r5 = 0 then
        f_X9_takePart_b84 F v2 (-1 : Int32) v2 r1
      else
        f_X9_takePart_b84 F v2 (2 : Int32) v2 r1
    else
      f_X9_takePart_b84 F v2 (1 : Int32) v2 r1
  else
    f_X9_takePart_b84 F v2 (0 : Int32) v2 r1
/-! X9_takeScene -/
def f_X9_takeScene_b71 (F : Nat) (s0 : Int32) (M : gM) : Option gM :=
  (f_X9_want s0 (4 : Int32) (M 95 16) M).bind fun r8 =>
  lt_ r8.1 fun v9 =>
  ck (ib (6 : Int32) 8) <|
  ck (ib (6 : Int32) 8) <|
  ltM (gst r8.2 108 (6 : Int32).toNatClampNeg ((r8.2 108 (6 : Int32).toNatClampNeg) + (1 : Int32))) fun M10 =>
  some M10
def f_X9_takeScene (F : Nat) (M : gM) : Option gM :=
  ck (ib (6 : Int32) 8) <|
  lt_ ((8 : Int32) + (M 108 (6 : Int32).toNatClampNeg)) fun v1 =>
  (f_X9_takeNumber F (0 : Int32) (11 : Int32) M).bind fun r2 =>
  ck (ib v1 16) <|
  ltM (gst r2.2 105 v1.toNatClampNeg r2.1) fun M3 =>
  (f_X9_takeNumber F (0 : Int32) (27 : Int32) M3).bind fun r4 =>
  ck (ib v1 16) <|
  ltM (gst r4.2 106 v1.toNatClampNeg r4.1) fun M5 =>
  (f_X9_takeNumber F (0 : Int32) (27 : Int32) M5).bind fun r6 =>
  ck (ib v1 16) <|
  ltM (gst r6.2 107 v1.toNatClampNeg r6.1) fun M7 =>
  ck (ib v1 16) <|
  ck (ib v1 16) <|
  if (M7 107 v1.toNatClampNeg) < (M7 106 v1.toNatClampNeg) then
    f_X9_takeScene_b71 F (0 : Int32) M7
  else
    f_X9_takeScene_b71 F (1 : Int32) M7
/-! X9_takeClause -/
def f_X9_takeClause_b150 (F : Nat) (x1 : Int32) (s0 : Int32) (M : gM) : Option gM :=
  (f_X9_want s0 (3 : Int32) x1 M).bind fun r7 =>
  if r7.1 = 0 then
    some r7.2
  else
    (f_X9_takeScene F r7.2).bind fun r8 =>
    some r8
def f_X9_takeClause_b93 (F : Nat) (x1 : Int32) (s0 : Int32) (M : gM) : Option gM :=
  (f_X9_want s0 (3 : Int32) x1 M).bind fun r9 =>
  if r9.1 = 0 then
    some r9.2
  else
    (f_X9_takeClash F r9.2).bind fun r10 =>
    some r10
def f_X9_takeClause_b43 (F : Nat) (x1 : Int32) (s0 : Int32) (M : gM) : Option gM :=
  (f_X9_want s0 (3 : Int32) x1 M).bind fun r11 =>
  if r11.1 = 0 then
    some r11.2
  else
    (f_X9_takePart F r11.2).bind fun r12 =>
    some r12
def f_X9_takeClause (F : Nat) (M : gM) : Option gM :=
  (f_X9_takeWord F M).bind fun r1 =>
  lt_ (r1 95 16) fun v2 =>
  (f_X9_isWord F (4 : Int32) (112 : Int32) (97 : Int32) (114 : Int32) (116 : Int32) (0 : Int32) r1).bind fun r3 =>
  if r3 = 0 then
    (f_X9_isWord F (5 : Int32) (99 : Int32) (108 : Int32) (97 : Int32) (115 : Int32) (104 : Int32) r1).bind fun r4 =>
    if r4 = 0 then
      (f_X9_isWord F (5 : Int32) (115 : Int32) (99 : Int32) (101 : Int32) (110 : Int32) (101 : Int32) r1).bind fun r5 =>
      (f_X9_want r5 (1 : Int32) v2 r1).bind fun r6 =>
      if r6.1 = 0 then
        some r6.2
      else
        ck (ib (6 : Int32) 8) <|
        if (8 : Int32) ≤ (r6.2 108 (6 : Int32).toNatClampNeg) then
          f_X9_takeClause_b150 F v2 (0 : Int32) r6.2
        else
          f_X9_takeClause_b150 F v2 (1 : Int32) r6.2
    else
      ck (ib (5 : Int32) 8) <|
      if (15 : Int32) ≤ (r1 108 (5 : Int32).toNatClampNeg) then
        f_X9_takeClause_b93 F v2 (0 : Int32) r1
      else
        f_X9_takeClause_b93 F v2 (1 : Int32) r1
  else
    ck (ib (4 : Int32) 8) <|
    if (10 : Int32) ≤ (r1 108 (4 : Int32).toNatClampNeg) then
      f_X9_takeClause_b43 F v2 (0 : Int32) r1
    else
      f_X9_takeClause_b43 F v2 (1 : Int32) r1
/-! X9_tear -/
def f_X9_tear (M : gM) : Option (Int32 × gM) :=
  lt_ ((M 95 33) + (M 95 30)) fun v1 =>
  ltM (gst M 95 33 (0 : Int32)) fun M2 =>
  ltM (gst M2 95 30 (0 : Int32)) fun M3 =>
  some (v1, M3)
/-! X9_told -/
def f_X9_told (F : Nat) (a0 : Int32) (M : gM) : Option Int32 :=
  if a0 = (0 : Int32) then
    ck (ib (0 : Int32) 8) <|
    some (M 108 (0 : Int32).toNatClampNeg)
  else
  if a0 = (1 : Int32) then
    ck (ib (1 : Int32) 8) <|
    some (M 108 (1 : Int32).toNatClampNeg)
  else
  if a0 = (2 : Int32) then
    (f_X9_clashMany F M).bind fun r4 =>
    some r4
  else
  if a0 = (3 : Int32) then
    some (M 95 14)
  else
  if a0 = (4 : Int32) then
    ck (ib (31 : Int32) 160) <|
    some (M 96 (31 : Int32).toNatClampNeg)
  else
  if a0 = (5 : Int32) then
    ck (ib (30 : Int32) 160) <|
    some (M 96 (30 : Int32).toNatClampNeg)
  else
  if a0 = (6 : Int32) then
    ck (ib (32 : Int32) 160) <|
    some (M 96 (32 : Int32).toNatClampNeg)
  else
  if a0 = (7 : Int32) then
    some (M 95 30)
  else
  if a0 = (8 : Int32) then
    some (M 95 33)
  else
  if a0 = (9 : Int32) then
    some (M 95 21)
  else
  if a0 = (10 : Int32) then
    (f_X9_widthsIn F (0 : Int32) M).bind fun r13 =>
    some r13
  else
  some (-1000000002 : Int32)
/-! X9_town -/
def f_X9_town_h280_b (F : Nat) (k280 : Int32 → gM → Option (Int32 × gM)) (x1 : Int32) (M : gM) : Option (Int32 × gM) :=
  if (8 : Int32) ≤ x1 then
    ck (ib (30 : Int32) 160) <|
    ltM (gst M 96 (30 : Int32).toNatClampNeg (0 : Int32)) fun M10 =>
    ck (ib (32 : Int32) 160) <|
    ltM (gst M10 96 (32 : Int32).toNatClampNeg (0 : Int32)) fun M11 =>
    ltM (gst M11 95 30 (0 : Int32)) fun M12 =>
    ltM (gst M12 95 33 (0 : Int32)) fun M13 =>
    ck (ib (0 : Int32) 2) <|
    ltM (gst M13 97 (0 : Int32).toNatClampNeg ((0 : Int32) &&& 1)) fun M14 =>
    ck (ib (1 : Int32) 2) <|
    ltM (gst M14 97 (1 : Int32).toNatClampNeg ((0 : Int32) &&& 1)) fun M15 =>
    (f_X9_findLooks F M15).bind fun r16 =>
    ck (ib (0 : Int32) 8) <|
    some (r16 108 (0 : Int32).toNatClampNeg, r16)
  else
    ck (ib ((8 : Int32) + x1) 16) <|
    ck (ib x1 16) <|
    ltM (gst M 105 x1.toNatClampNeg (M 105 ((8 : Int32) + x1).toNatClampNeg)) fun M17 =>
    ck (ib ((8 : Int32) + x1) 16) <|
    ck (ib x1 16) <|
    ltM (gst M17 106 x1.toNatClampNeg (M17 106 ((8 : Int32) + x1).toNatClampNeg)) fun M18 =>
    ck (ib ((8 : Int32) + x1) 16) <|
    ck (ib x1 16) <|
    ltM (gst M18 107 x1.toNatClampNeg (M18 107 ((8 : Int32) + x1).toNatClampNeg)) fun M19 =>
    k280 (x1 + (1 : Int32)) M19
def f_X9_town_h280 (F : Nat) : Nat → Int32 → gM → Option (Int32 × gM)
  | 0, _, _ => none
  | n + 1, x1, M => f_X9_town_h280_b F (f_X9_town_h280 F n) x1 M
theorem f_X9_town_h280_spec (F : Nat)  (I : Int32 → gM → Prop) (μ : Int32 → gM → Nat) (φ : Int32 → gM → Option (Int32 × gM))
    (h : ∀ (self : Int32 → gM → Option (Int32 × gM)) (x1 : Int32) (M : gM), I x1 M → (∀ (x1' : Int32) (M' : gM), I x1' M' → μ x1' M' < μ x1 M → self x1' M' = φ x1' M') → f_X9_town_h280_b F self x1 M = φ x1 M) :
    ∀ (n : Nat) (x1 : Int32) (M : gM), I x1 M → μ x1 M < n → f_X9_town_h280 F n x1 M = φ x1 M := by
  intro n
  induction n with
  | zero => intro x1 M _ hm; exact absurd hm (Nat.not_lt_zero _)
  | succ n ih => intro x1 M hI hm; exact h _ x1 M hI (fun x1' M' hI2 hlt => ih x1' M' hI2 (by omega))
def f_X9_town_h148_b (F : Nat) (k148 : Int32 → gM → Option (Int32 × gM)) (x1 : Int32) (M : gM) : Option (Int32 × gM) :=
  if (10 : Int32) ≤ x1 then
    f_X9_town_h280 F F (0 : Int32) M
  else
    ck (ib ((10 : Int32) + x1) 20) <|
    ck (ib x1 20) <|
    ltM (gst M 98 x1.toNatClampNeg (M 98 ((10 : Int32) + x1).toNatClampNeg)) fun M20 =>
    ck (ib ((10 : Int32) + x1) 20) <|
    ck (ib x1 20) <|
    ltM (gst M20 99 x1.toNatClampNeg (M20 99 ((10 : Int32) + x1).toNatClampNeg)) fun M21 =>
    ck (ib ((10 : Int32) + x1) 20) <|
    ck (ib x1 20) <|
    ltM (gst M21 102 x1.toNatClampNeg (M21 102 ((10 : Int32) + x1).toNatClampNeg)) fun M22 =>
    ck (ib ((10 : Int32) + x1) 20) <|
    ck (ib x1 20) <|
    ltM (gst M22 103 x1.toNatClampNeg (M22 103 ((10 : Int32) + x1).toNatClampNeg)) fun M23 =>
    ck (ib ((10 : Int32) + x1) 20) <|
    ck (ib x1 20) <|
    ltM (gst M23 104 x1.toNatClampNeg (M23 104 ((10 : Int32) + x1).toNatClampNeg)) fun M24 =>
    ck (ib ((10 : Int32) + x1) 20) <|
    ck (ib x1 160) <|
    ltM (gst M24 96 x1.toNatClampNeg (M24 100 ((10 : Int32) + x1).toNatClampNeg)) fun M25 =>
    ck (ib ((10 : Int32) + x1) 20) <|
    ck (ib ((10 : Int32) + x1) 160) <|
    ltM (gst M25 96 ((10 : Int32) + x1).toNatClampNeg (M25 101 ((10 : Int32) + x1).toNatClampNeg)) fun M26 =>
    ck (ib ((20 : Int32) + x1) 160) <|
    ltM (gst M26 96 ((20 : Int32) + x1).toNatClampNeg (0 : Int32)) fun M27 =>
    k148 (x1 + (1 : Int32)) M27
def f_X9_town_h148 (F : Nat) : Nat → Int32 → gM → Option (Int32 × gM)
  | 0, _, _ => none
  | n + 1, x1, M => f_X9_town_h148_b F (f_X9_town_h148 F n) x1 M
theorem f_X9_town_h148_spec (F : Nat)  (I : Int32 → gM → Prop) (μ : Int32 → gM → Nat) (φ : Int32 → gM → Option (Int32 × gM))
    (h : ∀ (self : Int32 → gM → Option (Int32 × gM)) (x1 : Int32) (M : gM), I x1 M → (∀ (x1' : Int32) (M' : gM), I x1' M' → μ x1' M' < μ x1 M → self x1' M' = φ x1' M') → f_X9_town_h148_b F self x1 M = φ x1 M) :
    ∀ (n : Nat) (x1 : Int32) (M : gM), I x1 M → μ x1 M < n → f_X9_town_h148 F n x1 M = φ x1 M := by
  intro n
  induction n with
  | zero => intro x1 M _ hm; exact absurd hm (Nat.not_lt_zero _)
  | succ n ih => intro x1 M hI hm; exact h _ x1 M hI (fun x1' M' hI2 hlt => ih x1' M' hI2 (by omega))
def f_X9_town_b101 (F : Nat) (M : gM) : Option (Int32 × gM) :=
  ltM (gst M 95 14 (0 : Int32)) fun M7 =>
  if (M7 95 18) ≤ 0 then
    ck (ib (4 : Int32) 8) <|
    ck (ib (0 : Int32) 8) <|
    ltM (gst M7 108 (0 : Int32).toNatClampNeg (M7 108 (4 : Int32).toNatClampNeg)) fun M8 =>
    ck (ib (6 : Int32) 8) <|
    ck (ib (1 : Int32) 8) <|
    ltM (gst M8 108 (1 : Int32).toNatClampNeg (M8 108 (6 : Int32).toNatClampNeg)) fun M9 =>
    f_X9_town_h148 F F (0 : Int32) M9
  else
    some ((-10 : Int32) - (M7 95 18), M7)
def f_X9_town_b77 (F : Nat) (k37 : gM → Option (Int32 × gM)) (s0 : Int32) (M : gM) : Option (Int32 × gM) :=
  (f_X9_want s0 (1 : Int32) (M 95 15) M).bind fun r31 =>
  if r31.1 = 0 then
    k37 r31.2
  else
    ltM (gst r31.2 95 15 ((r31.2 95 15) + (1 : Int32))) fun M32 =>
    k37 M32
def f_X9_town_h37_b (F : Nat) (k37 : gM → Option (Int32 × gM)) (M : gM) : Option (Int32 × gM) :=
  if (M 95 18) = 0 then
    (f_X9_here F M).bind fun r28 =>
    if r28.1 < 0 then
      f_X9_town_b101 F r28.2
    else
      (f_X9_takeClause F r28.2).bind fun r29 =>
      if (r29 95 18) = 0 then
        (f_X9_here F r29).bind fun r30 =>
        if r30.1 = (59 : Int32) then
          f_X9_town_b77 F k37 (1 : Int32) r30.2
        else
          f_X9_town_b77 F k37 (0 : Int32) r30.2
      else
        k37 r29
  else
    f_X9_town_b101 F M
def f_X9_town_h37 (F : Nat) : Nat → gM → Option (Int32 × gM)
  | 0, _ => none
  | n + 1, M => f_X9_town_h37_b F (f_X9_town_h37 F n) M
theorem f_X9_town_h37_spec (F : Nat)  (I : gM → Prop) (μ : gM → Nat) (φ : gM → Option (Int32 × gM))
    (h : ∀ (self : gM → Option (Int32 × gM)) (M : gM), I M → (∀ (M' : gM), I M' → μ M' < μ M → self M' = φ M') → f_X9_town_h37_b F self M = φ M) :
    ∀ (n : Nat) (M : gM), I M → μ M < n → f_X9_town_h37 F n M = φ M := by
  intro n
  induction n with
  | zero => intro M _ hm; exact absurd hm (Nat.not_lt_zero _)
  | succ n ih => intro M hI hm; exact h _ M hI (fun M' hI2 hlt => ih M' hI2 (by omega))
def f_X9_town (F : Nat) (M : gM) : Option (Int32 × gM) :=
  ltM (gst M 95 15 (0 : Int32)) fun M1 =>
  ltM (gst M1 95 18 (0 : Int32)) fun M2 =>
  ltM (gst M2 95 19 (-1 : Int32)) fun M3 =>
  ck (ib (4 : Int32) 8) <|
  ltM (gst M3 108 (4 : Int32).toNatClampNeg (0 : Int32)) fun M4 =>
  ck (ib (5 : Int32) 8) <|
  ltM (gst M4 108 (5 : Int32).toNatClampNeg (0 : Int32)) fun M5 =>
  ck (ib (6 : Int32) 8) <|
  ltM (gst M5 108 (6 : Int32).toNatClampNeg (0 : Int32)) fun M6 =>
  f_X9_town_h37 F F M6
/-! X9_wedding -/
def f_X9_wedding_b108 (F : Nat) (a0 : Int32) (a1 : Int32) (M : gM) (k34 : Int32 → Int32 → Int32 → Option Int32) (k49 : Int32 → Int32 → Int32 → Int32 → Option Int32) (x3 : Int32) (x4 : Int32) (x5 : Int32) (x6 : Int32) (s0 : Int32) : Option Int32 :=
  ck (ib x5 64) <|
  ck (ib x6 64) <|
  (f_X9_sumOf F (10 : Int32) ((M 110 x5.toNatClampNeg) ||| (M 110 x6.toNatClampNeg)) M).bind fun r4 =>
  if s0 = 0 then
    k49 x3 x4 x5 (x6 + (1 : Int32))
  else
    if x4 ≤ r4 then
      k49 x3 x4 x5 (x6 + (1 : Int32))
    else
      ck (ib x5 64) <|
      ck (ib x6 64) <|
      (f_X9_isFree F ((M 110 x5.toNatClampNeg) ||| (M 110 x6.toNatClampNeg)) a0 M).bind fun r5 =>
      if r5 = 0 then
        k49 x3 x4 x5 (x6 + (1 : Int32))
      else
        ck (ib x5 64) <|
        ck (ib x6 64) <|
        lt_ ((M 110 x5.toNatClampNeg) ||| (M 110 x6.toNatClampNeg)) fun v6 =>
        k49 v6 r4 x5 (x6 + (1 : Int32))
def f_X9_wedding_b107 (F : Nat) (a0 : Int32) (a1 : Int32) (M : gM) (k34 : Int32 → Int32 → Int32 → Option Int32) (k49 : Int32 → Int32 → Int32 → Int32 → Option Int32) (x3 : Int32) (x4 : Int32) (x5 : Int32) (x6 : Int32) : Option Int32 :=
  f_X9_wedding_b108 F a0 a1 M k34 k49 x3 x4 x5 x6 (0 : Int32)
def f_X9_wedding_h49_b (F : Nat) (a0 : Int32) (a1 : Int32) (M : gM) (k34 : Int32 → Int32 → Int32 → Option Int32) (k49 : Int32 → Int32 → Int32 → Int32 → Option Int32) (x3 : Int32) (x4 : Int32) (x5 : Int32) (x6 : Int32) : Option Int32 :=
  if (M 95 21) ≤ x6 then
    k34 x3 x4 (x5 + (1 : Int32))
  else
    ck (ib x5 64) <|
    ck (ib x6 64) <|
    if ((M 110 x5.toNatClampNeg) &&& (M 110 x6.toNatClampNeg)) = 0 then
      ck (ib x5 64) <|
      (f_X9_sumOf F (0 : Int32) (M 110 x5.toNatClampNeg) M).bind fun r7 =>
      ck (ib x6 64) <|
      (f_X9_sumOf F (0 : Int32) (M 110 x6.toNatClampNeg) M).bind fun r8 =>
      if r7 = r8 then
        f_X9_wedding_b108 F a0 a1 M k34 k49 x3 x4 x5 x6 (1 : Int32)
      else
        f_X9_wedding_b107 F a0 a1 M k34 k49 x3 x4 x5 x6
    else
      f_X9_wedding_b107 F a0 a1 M k34 k49 x3 x4 x5 x6
def f_X9_wedding_h49 (F : Nat) (a0 : Int32) (a1 : Int32) (M : gM) (k34 : Int32 → Int32 → Int32 → Option Int32) : Nat → Int32 → Int32 → Int32 → Int32 → Option Int32
  | 0, _, _, _, _ => none
  | n + 1, x3, x4, x5, x6 => f_X9_wedding_h49_b F a0 a1 M k34 (f_X9_wedding_h49 F a0 a1 M k34 n) x3 x4 x5 x6
theorem f_X9_wedding_h49_spec (F : Nat) (a0 : Int32) (a1 : Int32) (M : gM) (k34 : Int32 → Int32 → Int32 → Option Int32) (I : Int32 → Int32 → Int32 → Int32 → Prop) (μ : Int32 → Int32 → Int32 → Int32 → Nat) (φ : Int32 → Int32 → Int32 → Int32 → Option Int32)
    (h : ∀ (self : Int32 → Int32 → Int32 → Int32 → Option Int32) (x3 : Int32) (x4 : Int32) (x5 : Int32) (x6 : Int32), I x3 x4 x5 x6 → (∀ (x3' : Int32) (x4' : Int32) (x5' : Int32) (x6' : Int32), I x3' x4' x5' x6' → μ x3' x4' x5' x6' < μ x3 x4 x5 x6 → self x3' x4' x5' x6' = φ x3' x4' x5' x6') → f_X9_wedding_h49_b F a0 a1 M k34 self x3 x4 x5 x6 = φ x3 x4 x5 x6) :
    ∀ (n : Nat) (x3 : Int32) (x4 : Int32) (x5 : Int32) (x6 : Int32), I x3 x4 x5 x6 → μ x3 x4 x5 x6 < n → f_X9_wedding_h49 F a0 a1 M k34 n x3 x4 x5 x6 = φ x3 x4 x5 x6 := by
  intro n
  induction n with
  | zero => intro x3 x4 x5 x6 _ hm; exact absurd hm (Nat.not_lt_zero _)
  | succ n ih => intro x3 x4 x5 x6 hI hm; exact h _ x3 x4 x5 x6 hI (fun x3' x4' x5' x6' hI2 hlt => ih x3' x4' x5' x6' hI2 (by omega))
def f_X9_wedding_h34_b (F : Nat) (a0 : Int32) (a1 : Int32) (M : gM) (k34 : Int32 → Int32 → Int32 → Option Int32) (x3 : Int32) (x4 : Int32) (x5 : Int32) : Option Int32 :=
  if (M 95 21) ≤ x5 then
    if 0 ≤ x3 then
      if a1 = 0 then
        some x4
      else
        some x3
    else
      some (-1 : Int32)
  else
    lt_ (x5 + (1 : Int32)) fun v3 =>
    f_X9_wedding_h49 F a0 a1 M k34 F x3 x4 x5 v3
def f_X9_wedding_h34 (F : Nat) (a0 : Int32) (a1 : Int32) (M : gM) : Nat → Int32 → Int32 → Int32 → Option Int32
  | 0, _, _, _ => none
  | n + 1, x3, x4, x5 => f_X9_wedding_h34_b F a0 a1 M (f_X9_wedding_h34 F a0 a1 M n) x3 x4 x5
theorem f_X9_wedding_h34_spec (F : Nat) (a0 : Int32) (a1 : Int32) (M : gM)  (I : Int32 → Int32 → Int32 → Prop) (μ : Int32 → Int32 → Int32 → Nat) (φ : Int32 → Int32 → Int32 → Option Int32)
    (h : ∀ (self : Int32 → Int32 → Int32 → Option Int32) (x3 : Int32) (x4 : Int32) (x5 : Int32), I x3 x4 x5 → (∀ (x3' : Int32) (x4' : Int32) (x5' : Int32), I x3' x4' x5' → μ x3' x4' x5' < μ x3 x4 x5 → self x3' x4' x5' = φ x3' x4' x5') → f_X9_wedding_h34_b F a0 a1 M self x3 x4 x5 = φ x3 x4 x5) :
    ∀ (n : Nat) (x3 : Int32) (x4 : Int32) (x5 : Int32), I x3 x4 x5 → μ x3 x4 x5 < n → f_X9_wedding_h34 F a0 a1 M n x3 x4 x5 = φ x3 x4 x5 := by
  intro n
  induction n with
  | zero => intro x3 x4 x5 _ hm; exact absurd hm (Nat.not_lt_zero _)
  | succ n ih => intro x3 x4 x5 hI hm; exact h _ x3 x4 x5 hI (fun x3' x4' x5' hI2 hlt => ih x3' x4' x5' hI2 (by omega))
def f_X9_wedding (F : Nat) (a0 : Int32) (a1 : Int32) (M : gM) : Option Int32 :=
  (f_X9_in a0.toInt64 (0 : Int64) (11 : Int64) M).bind fun r1 =>
  if r1 = 0 then
    some (-1000000002 : Int32)
  else
    (f_X9_in a1.toInt64 (0 : Int64) (1 : Int64) M).bind fun r2 =>
    if r2 = 0 then
      some (-1000000002 : Int32)
    else
      f_X9_wedding_h34 F a0 a1 M F (-1 : Int32) (1000000 : Int32) (0 : Int32)
/-! X9_width -/
def f_X9_width (a0 : Int32) (a1 : Int32) (M : gM) : Option (Int32 × gM) :=
  (f_X9_isPart a0 M).bind fun r1 =>
  if r1 = 0 then
    some ((-1000000001 : Int32), M)
  else
    (f_X9_in a1.toInt64 (0 : Int64) (9 : Int64) M).bind fun r2 =>
    if r2 = 0 then
      some ((-1000000002 : Int32), M)
    else
      ck (ib a0 160) <|
      lt_ (M 96 a0.toNatClampNeg) fun v3 =>
      ck (ib a0 160) <|
      ltM (gst M 96 a0.toNatClampNeg a1) fun M4 =>
      some (v3, M4)
/-! X9_without -/
def f_X9_without_b53 (F : Nat) (a0 : Int32) (k23 : Int32 → Int32 → gM → Option (Int32 × gM)) (x2 : Int32) (x3 : Int32) (s0 : Int32) (s1 : Int32) (M : gM) : Option (Int32 × gM) :=
  (f_X9_one s0 M).bind fun r7 =>
  ltM (gst M 95 22 (s1 ||| (r7 <<< (x3 &&& 31)))) fun M8 =>
  k23 x2 (x3 + (1 : Int32)) M8
def f_X9_without_h23_b (F : Nat) (a0 : Int32) (k23 : Int32 → Int32 → gM → Option (Int32 × gM)) (x2 : Int32) (x3 : Int32) (M : gM) : Option (Int32 × gM) :=
  ck (ib (0 : Int32) 8) <|
  if (M 108 (0 : Int32).toNatClampNeg) ≤ x3 then
    (f_X9_leastIn F (0 : Int32) M).bind fun r4 =>
    lt_ r4.1 fun v5 =>
    ltM (gst r4.2 95 22 (0 : Int32)) fun M6 =>
    if x2 < 0 then
      some ((-1 : Int32), M6)
    else
      if 0 ≤ v5 then
        some (v5 - x2, M6)
      else
        some ((-1 : Int32), M6)
  else
    ck (ib x3 20) <|
    if (M 99 x3.toNatClampNeg) = a0 then
      f_X9_without_b53 F a0 k23 x2 x3 (1 : Int32) (M 95 22) M
    else
      f_X9_without_b53 F a0 k23 x2 x3 (0 : Int32) (M 95 22) M
def f_X9_without_h23 (F : Nat) (a0 : Int32) : Nat → Int32 → Int32 → gM → Option (Int32 × gM)
  | 0, _, _, _ => none
  | n + 1, x2, x3, M => f_X9_without_h23_b F a0 (f_X9_without_h23 F a0 n) x2 x3 M
theorem f_X9_without_h23_spec (F : Nat) (a0 : Int32)  (I : Int32 → Int32 → gM → Prop) (μ : Int32 → Int32 → gM → Nat) (φ : Int32 → Int32 → gM → Option (Int32 × gM))
    (h : ∀ (self : Int32 → Int32 → gM → Option (Int32 × gM)) (x2 : Int32) (x3 : Int32) (M : gM), I x2 x3 M → (∀ (x2' : Int32) (x3' : Int32) (M' : gM), I x2' x3' M' → μ x2' x3' M' < μ x2 x3 M → self x2' x3' M' = φ x2' x3' M') → f_X9_without_h23_b F a0 self x2 x3 M = φ x2 x3 M) :
    ∀ (n : Nat) (x2 : Int32) (x3 : Int32) (M : gM), I x2 x3 M → μ x2 x3 M < n → f_X9_without_h23 F a0 n x2 x3 M = φ x2 x3 M := by
  intro n
  induction n with
  | zero => intro x2 x3 M _ hm; exact absurd hm (Nat.not_lt_zero _)
  | succ n ih => intro x2 x3 M hI hm; exact h _ x2 x3 M hI (fun x2' x3' M' hI2 hlt => ih x2' x3' M' hI2 (by omega))
def f_X9_without (F : Nat) (a0 : Int32) (M : gM) : Option (Int32 × gM) :=
  (f_X9_in a0.toInt64 (0 : Int64) (3 : Int64) M).bind fun r1 =>
  if r1 = 0 then
    some ((-1000000002 : Int32), M)
  else
    (f_X9_leastIn F (0 : Int32) M).bind fun r2 =>
    lt_ r2.1 fun v3 =>
    f_X9_without_h23 F a0 F v3 (0 : Int32) r2.2
/-! X9_write -/
def f_X9_write (a0 : Int32) (a1 : Int32) (M : gM) : Option (Int32 × gM) :=
  (f_X9_isPart a1 M).bind fun r1 =>
  if r1 = 0 then
    some ((-1000000001 : Int32), M)
  else
    (f_X9_in a0.toInt64 (0 : Int64) (11 : Int64) M).bind fun r2 =>
    if r2 = 0 then
      some ((-1000000002 : Int32), M)
    else
      if (M 95 33) = (40 : Int32) then
        some ((-1000000004 : Int32), M)
      else
        ck (ib (M 95 33) 40) <|
        ltM (gst M 118 (M 95 33).toNatClampNeg a0) fun M3 =>
        ck (ib (M3 95 33) 40) <|
        ltM (gst M3 119 (M3 95 33).toNatClampNeg a1) fun M4 =>
        ltM (gst M4 95 33 ((M4 95 33) + (1 : Int32))) fun M5 =>
        some (M5 95 33, M5)
