abbrev gM : Type := Nat → Nat → Int32
abbrev gK : Type := Nat ⊕ Nat ⊕ Nat ⊕ Nat
abbrev gKo (c : Nat) : gK := .inl c
abbrev gKi (n : Nat) : gK := .inr (.inl n)
abbrev gKz (n : Nat) : gK := .inr (.inr (.inl n))
abbrev gKr (n : Nat) : gK := .inr (.inr (.inr n))
def gN : Nat := 120
def gkdL : List gK := [gKo 8, gKo 6, gKi 400, gKo 7, gKi 10, gKi 10, gKi 10, gKi 10, gKi 10, gKi 10, gKi 10, gKi 8, gKi 8, gKi 8, gKo 7, gKi 10, gKi 10, gKi 10, gKi 10, gKi 10, gKi 10, gKi 10, gKi 8, gKi 8, gKi 8, gKo 3, gKo 5, gKi 10, gKi 10, gKi 10, gKo 5, gKi 10, gKi 10, gKi 10, gKo 5, gKi 10, gKi 10, gKi 10, gKz 2, gKo 2, gKi 36, gKi 36, gKi 36, gKo 1, gKi 13, gKr 13, gKi 64, gKi 64, gKi 64, gKi 64, gKi 64, gKi 64, gKi 64, gKi 64, gKi 64, gKi 64, gKi 64, gKi 64, gKi 64, gKr 13, gKi 64, gKi 64, gKi 64, gKi 64, gKi 64, gKi 64, gKi 64, gKi 64, gKi 64, gKi 64, gKi 64, gKi 64, gKi 64, gKr 12, gKi 64, gKi 64, gKi 64, gKi 64, gKi 64, gKi 64, gKi 64, gKi 64, gKi 64, gKi 64, gKi 64, gKi 64, gKi 12, gKi 8, gKo 4, gKi 20, gKi 20, gKo 0, gKi 40, gKi 40, gKi 10, gKo 9, gKi 160, gKz 2, gKi 20, gKi 20, gKi 20, gKi 20, gKi 20, gKi 20, gKi 20, gKi 16, gKi 16, gKi 16, gKi 8, gKi 400, gKi 64, gKz 12288, gKi 13312, gKz 1024, gKz 1024, gKi 12, gKi 20, gKi 20, gKi 40, gKi 40]
def kd (k : Nat) : gK := gkdL.getD k (gKo 77)
theorem gkdL_len : gkdL.length = gN := by decide +kernel
theorem gkd_lt {k : Nat} {K : gK} (h : kd k = K) (hK : K ≠ gKo 77) : k < gN := by
  rcases Nat.lt_or_ge k gN with q | q
  · exact q
  · exfalso
    apply hK
    rw [← h]
    have e2 : gkdL[k]? = none := List.getElem?_eq_none (by rw [gkdL_len]; exact q)
    unfold kd
    rw [List.getD_eq_getElem?_getD, e2]
    rfl
def grfL : List (List Nat) := [[1, 25, 3, 14, 26, 30, 34, 38, 39, 43, 88, 91, 94], [2], [], [4, 5, 6, 7, 8, 9, 10, 11, 12, 13], [], [], [], [], [], [], [], [], [], [], [15, 16, 17, 18, 19, 20, 21, 22, 23, 24], [], [], [], [], [], [], [], [], [], [], [1, 14], [27, 28, 29], [], [], [], [31, 32, 33], [], [], [], [35, 36, 37], [], [], [], [], [3, 26, 40, 41, 42], [], [], [], [3, 39, 44, 45, 59, 73, 86, 87], [], [46, 47, 48, 49, 50, 51, 52, 53, 54, 55, 56, 57, 58], [], [], [], [], [], [], [], [], [], [], [], [], [], [60, 61, 62, 63, 64, 65, 66, 67, 68, 69, 70, 71, 72], [], [], [], [], [], [], [], [], [], [], [], [], [], [74, 75, 76, 77, 78, 79, 80, 81, 82, 83, 84, 85], [], [], [], [], [], [], [], [], [], [], [], [], [], [], [3, 39, 89, 90], [], [], [3, 92, 93], [], [], [], [96, 97, 98, 99, 100, 101, 102, 103, 104, 105, 106, 107, 108, 109, 0, 0, 0, 0, 0, 0, 110, 0, 0, 111, 112, 113, 114, 115, 116, 117, 0, 118, 119], [], [], [], [], [], [], [], [], [], [], [], [], [], [], [], [], [], [], [], [], [], [], [], []]
def rf (k i : Nat) : Nat := (grfL.getD k []).getD i 0
def gfshL : List (List Bool) := [[false, false, false, true], [false, false, false, false, false, false, false, false, true], [false, false, false, false, false, true], [false, false, true, true, true, true], [false, false, false, false, true], [false, false, false, true, true, true, true], [false, true], [false, false, false, false, false, false, false, false, false, false, true, true, true], [false, false, false, false, false, false, false, false, false, false, false, false, false, true], [false, false, false, false, false, false, false, false, false, false, false, false, false, false, true, true, true, true, true, true, false, true, true, false, false, false, false, false, false, false, true, false, false, true]]
def gfsh (c : Nat) : List Bool := gfshL.getD c []
theorem kf_7_0 {t : Nat} (h : kd t = gKo 7) : kd (rf t 0) = gKi 10 :=
  (show ∀ t, t < gN → kd t = gKo 7 → kd (rf t 0) = gKi 10 by decide +kernel) t (gkd_lt h (by decide)) h
theorem kf_7_1 {t : Nat} (h : kd t = gKo 7) : kd (rf t 1) = gKi 10 :=
  (show ∀ t, t < gN → kd t = gKo 7 → kd (rf t 1) = gKi 10 by decide +kernel) t (gkd_lt h (by decide)) h
theorem kf_7_2 {t : Nat} (h : kd t = gKo 7) : kd (rf t 2) = gKi 10 :=
  (show ∀ t, t < gN → kd t = gKo 7 → kd (rf t 2) = gKi 10 by decide +kernel) t (gkd_lt h (by decide)) h
theorem kf_7_3 {t : Nat} (h : kd t = gKo 7) : kd (rf t 3) = gKi 10 :=
  (show ∀ t, t < gN → kd t = gKo 7 → kd (rf t 3) = gKi 10 by decide +kernel) t (gkd_lt h (by decide)) h
theorem kf_7_4 {t : Nat} (h : kd t = gKo 7) : kd (rf t 4) = gKi 10 :=
  (show ∀ t, t < gN → kd t = gKo 7 → kd (rf t 4) = gKi 10 by decide +kernel) t (gkd_lt h (by decide)) h
theorem kf_7_5 {t : Nat} (h : kd t = gKo 7) : kd (rf t 5) = gKi 10 :=
  (show ∀ t, t < gN → kd t = gKo 7 → kd (rf t 5) = gKi 10 by decide +kernel) t (gkd_lt h (by decide)) h
theorem kf_7_6 {t : Nat} (h : kd t = gKo 7) : kd (rf t 6) = gKi 10 :=
  (show ∀ t, t < gN → kd t = gKo 7 → kd (rf t 6) = gKi 10 by decide +kernel) t (gkd_lt h (by decide)) h
theorem kf_7_7 {t : Nat} (h : kd t = gKo 7) : kd (rf t 7) = gKi 8 :=
  (show ∀ t, t < gN → kd t = gKo 7 → kd (rf t 7) = gKi 8 by decide +kernel) t (gkd_lt h (by decide)) h
theorem kf_7_8 {t : Nat} (h : kd t = gKo 7) : kd (rf t 8) = gKi 8 :=
  (show ∀ t, t < gN → kd t = gKo 7 → kd (rf t 8) = gKi 8 by decide +kernel) t (gkd_lt h (by decide)) h
theorem kf_7_9 {t : Nat} (h : kd t = gKo 7) : kd (rf t 9) = gKi 8 :=
  (show ∀ t, t < gN → kd t = gKo 7 → kd (rf t 9) = gKi 8 by decide +kernel) t (gkd_lt h (by decide)) h
theorem kf_5_0 {t : Nat} (h : kd t = gKo 5) : kd (rf t 0) = gKi 10 :=
  (show ∀ t, t < gN → kd t = gKo 5 → kd (rf t 0) = gKi 10 by decide +kernel) t (gkd_lt h (by decide)) h
theorem kf_5_1 {t : Nat} (h : kd t = gKo 5) : kd (rf t 1) = gKi 10 :=
  (show ∀ t, t < gN → kd t = gKo 5 → kd (rf t 1) = gKi 10 by decide +kernel) t (gkd_lt h (by decide)) h
theorem kf_5_2 {t : Nat} (h : kd t = gKo 5) : kd (rf t 2) = gKi 10 :=
  (show ∀ t, t < gN → kd t = gKo 5 → kd (rf t 2) = gKi 10 by decide +kernel) t (gkd_lt h (by decide)) h
theorem kg_45 {j : Int32} (h : decide (0 ≤ j.toInt ∧ j.toInt < (13 : Int)) = true) : kd (rf 45 j.toNatClampNeg) = gKi 64 := by
  have h2 := of_decide_eq_true h
  have h3 : j.toNatClampNeg < 13 := by
    show j.toInt.toNat < 13
    omega
  exact (show ∀ k, k < 13 → kd (rf 45 k) = gKi 64 by decide +kernel) _ h3
theorem kg_59 {j : Int32} (h : decide (0 ≤ j.toInt ∧ j.toInt < (13 : Int)) = true) : kd (rf 59 j.toNatClampNeg) = gKi 64 := by
  have h2 := of_decide_eq_true h
  have h3 : j.toNatClampNeg < 13 := by
    show j.toInt.toNat < 13
    omega
  exact (show ∀ k, k < 13 → kd (rf 59 k) = gKi 64 by decide +kernel) _ h3
theorem kg_73 {j : Int32} (h : decide (0 ≤ j.toInt ∧ j.toInt < (12 : Int)) = true) : kd (rf 73 j.toNatClampNeg) = gKi 64 := by
  have h2 := of_decide_eq_true h
  have h3 : j.toNatClampNeg < 12 := by
    show j.toInt.toNat < 12
    omega
  exact (show ∀ k, k < 12 → kd (rf 73 k) = gKi 64 by decide +kernel) _ h3
abbrev gNF : Type := String × Nat × String × String × String × String
abbrev gNM : Type := String × Nat × MethodName × String
def nstF : List gNF := [(RX8, 95, "RentedLooks$Text", "length", "I", "RentedLooks"), (RX3, 37, "RentedLooks$Text", "length", "I", "RentedLooks"), (RX8, 151, "RentedLooks$Town", "kind", "[I", "RentedLooks"), (RX8, 154, "RentedLooks$Town", "landlord", "[I", "RentedLooks"), (RX5, 21, "RentedLooks$Town", "toldWidth", "[I", "RentedLooks"), (RX5, 30, "RentedLooks$Town", "toldPrice", "[I", "RentedLooks"), (RX8, 163, "RentedLooks$Town", "from", "[I", "RentedLooks"), (RX8, 166, "RentedLooks$Town", "to", "[I", "RentedLooks"), (RX8, 169, "RentedLooks$Town", "clashing", "[I", "RentedLooks"), (RX1, 50, "RentedLooks$Town", "hour", "[I", "RentedLooks"), (RX8, 178, "RentedLooks$Town", "hour", "[I", "RentedLooks"), (RX2, 84, "RentedLooks$Town", "hour", "[I", "RentedLooks"), (RX8, 181, "RentedLooks$Town", "low", "[I", "RentedLooks"), (RX2, 78, "RentedLooks$Town", "low", "[I", "RentedLooks"), (RX8, 184, "RentedLooks$Town", "high", "[I", "RentedLooks"), (RX2, 81, "RentedLooks$Town", "high", "[I", "RentedLooks"), (RX2, 33, "RentedLooks$Town", "parts", "I", "RentedLooks"), (RX3, 71, "RentedLooks$Town", "parts", "I", "RentedLooks"), (RX8, 123, "RentedLooks$Town", "parts", "I", "RentedLooks"), (RX3, 92, "RentedLooks$Town", "clashes", "I", "RentedLooks"), (RX8, 129, "RentedLooks$Town", "clashes", "I", "RentedLooks"), (RX1, 44, "RentedLooks$Town", "scenes", "I", "RentedLooks"), (RX3, 102, "RentedLooks$Town", "scenes", "I", "RentedLooks"), (RX8, 126, "RentedLooks$Town", "scenes", "I", "RentedLooks"), (RX8, 107, "RentedLooks$Reader", "place", "I", "RentedLooks"), (RX2, 49, "RentedLooks$State", "widths", "[I", "RentedLooks"), (RX8, 157, "RentedLooks$State", "widths", "[I", "RentedLooks"), (RX2, 58, "RentedLooks$State", "prices", "[I", "RentedLooks"), (RX8, 160, "RentedLooks$State", "prices", "[I", "RentedLooks"), (RX8, 172, "RentedLooks$State", "worn", "[I", "RentedLooks"), (RX8, 135, "RentedLooks$State", "spent", "I", "RentedLooks"), (RX8, 138, "RentedLooks$State", "days", "I", "RentedLooks"), (RX8, 132, "RentedLooks$State", "lawNow", "I", "RentedLooks"), (RX8, 280, "RentedLooks$State", "seedNow", "I", "RentedLooks"), (RX1, 64, "RentedLooks$Looks", "count", "I", "RentedLooks"), (RX4, 44, "RentedLooks$Looks", "count", "I", "RentedLooks"), (RX8, 141, "RentedLooks$Looks", "count", "I", "RentedLooks"), (RX8, 263, "RentedLooks$Dresser", "worn", "[I", "RentedLooks"), (RX8, 206, "RentedLooks$Dresser", "lookOf", "[I", "RentedLooks"), (RX8, 203, "RentedLooks$Dresser", "total", "I", "RentedLooks"), (RX8, 119, "RentedLooks$Sightings", "count", "I", "RentedLooks"), (RX8, 122, "RentedLooks$Book", "count", "I", "RentedLooks")]
def nstM : List gNM := [(RX8, 9, yX6_init, "RentedLooks"), (RX8, 18, yX7_init, "RentedLooks"), (RX8, 28, yX3_init, "RentedLooks"), (RX8, 37, yX5_init, "RentedLooks"), (RX8, 54, yX2_init, "RentedLooks"), (RX8, 63, yX1_init, "RentedLooks"), (RX8, 72, yX4_init, "RentedLooks"), (RX8, 79, yX0_init, "RentedLooks"), (RX8, 99, yX6_add, "RentedLooks"), (RX8, 103, yX3_readTown, "RentedLooks"), (RX3, 23, yX7_clear, "RentedLooks"), (RX3, 122, yX6_byteAt, "RentedLooks"), (RX3, 109, yX6_isLetter, "RentedLooks"), (RX3, 50, yX6_stands, "RentedLooks"), (RX3, 119, yX6_isFigure, "RentedLooks"), (RX3, 85, yX7_addPart, "RentedLooks"), (RX3, 89, yX7_setHoursOfLatest, "RentedLooks"), (RX3, 95, yX7_isClash, "RentedLooks"), (RX7, 56, yX8_has, "RentedLooks"), (RX3, 99, yX7_addClash, "RentedLooks"), (RX3, 105, yX7_addScene, "RentedLooks"), (RX8, 110, yX7_copyFrom, "RentedLooks"), (RX7, 60, yX8_copyRow, "RentedLooks"), (RX8, 113, yX5_beginIn, "RentedLooks"), (RX5, 26, yX8_copyRow, "RentedLooks"), (RX8, 116, yX2_build, "RentedLooks"), (RX2, 42, yX7_isOfKind, "RentedLooks"), (RX2, 46, yX7_isClash, "RentedLooks"), (RX8, 142, yX2_widthsIf, "RentedLooks"), (RX2, 65, yX7_hasPart, "RentedLooks"), (RX2, 72, yX8_has, "RentedLooks"), (RX8, 146, yX7_hasPart, "RentedLooks"), (RX8, 175, yX7_hasScene, "RentedLooks"), (RX8, 187, yX2_partsOf, "RentedLooks"), (RX8, 191, yX2_widthOf, "RentedLooks"), (RX8, 194, yX2_priceOf, "RentedLooks"), (RX8, 197, yX2_cheapestFor, "RentedLooks"), (RX2, 75, yX7_hasScene, "RentedLooks"), (RX2, 87, yX7_freeIn, "RentedLooks"), (RX8, 219, yX1_gather, "RentedLooks"), (RX1, 53, yX7_freeIn, "RentedLooks"), (RX1, 60, yX8_copyRow, "RentedLooks"), (RX1, 69, yX2_isFor, "RentedLooks"), (RX1, 73, yX2_partsOf, "RentedLooks"), (RX8, 226, yX1_choose, "RentedLooks"), (RX1, 87, yX8_sumOver, "RentedLooks"), (RX8, 212, yX7_ownedBy, "RentedLooks"), (RX8, 215, yX1_priceOfWorn, "RentedLooks"), (RX8, 222, yX5_raisePrices, "RentedLooks"), (RX5, 52, yX8_has, "RentedLooks"), (RX8, 238, yX7_freeIn, "RentedLooks"), (RX8, 241, yX2_mayMarry, "RentedLooks"), (RX8, 245, yX4_add, "RentedLooks"), (RX8, 248, yX4_mayBeWorn, "RentedLooks"), (RX4, 39, yX7_freeIn, "RentedLooks"), (RX4, 30, yX2_partsOf, "RentedLooks"), (RX4, 36, yX2_widthOf, "RentedLooks"), (RX8, 251, yX4_surelyWorn, "RentedLooks"), (RX8, 254, yX4_firstStrange, "RentedLooks"), (RX8, 264, yX5_wearHour, "RentedLooks"), (RX8, 267, yX5_wearOut, "RentedLooks"), (RX8, 260, yX5_drawPrices, "RentedLooks"), (RX8, 276, yX0_add, "RentedLooks"), (RX8, 277, yX0_firstWrong, "RentedLooks"), (RX0, 26, yX7_isFree, "RentedLooks"), (RX8, 287, yX5_copyFrom, "RentedLooks")]
def gLen : List Nat := [4, 5, 5, 4, 4, 5]
def gByt : List (List Int32) := [[112, 97, 114, 116], [99, 108, 97, 115, 104], [115, 99, 101, 110, 101], [98, 114, 111, 119], [101, 121, 101, 115], [109, 111, 117, 116, 104]]
def gSix : List Nat := [45, 57, 62, 113, 115, 117]
def gStx : List String := ["part", "clash", "scene", "brow", "eyes", "mouth"]
theorem wnf_X8_95 : (RX8, 95, "RentedLooks$Text", "length", "I", "RentedLooks") ∈ nstF := List.mem_of_getElem? (i := 0) rfl
theorem wnf_X3_37 : (RX3, 37, "RentedLooks$Text", "length", "I", "RentedLooks") ∈ nstF := List.mem_of_getElem? (i := 1) rfl
theorem wnf_X8_151 : (RX8, 151, "RentedLooks$Town", "kind", "[I", "RentedLooks") ∈ nstF := List.mem_of_getElem? (i := 2) rfl
theorem wnf_X8_154 : (RX8, 154, "RentedLooks$Town", "landlord", "[I", "RentedLooks") ∈ nstF := List.mem_of_getElem? (i := 3) rfl
theorem wnf_X5_21 : (RX5, 21, "RentedLooks$Town", "toldWidth", "[I", "RentedLooks") ∈ nstF := List.mem_of_getElem? (i := 4) rfl
theorem wnf_X5_30 : (RX5, 30, "RentedLooks$Town", "toldPrice", "[I", "RentedLooks") ∈ nstF := List.mem_of_getElem? (i := 5) rfl
theorem wnf_X8_163 : (RX8, 163, "RentedLooks$Town", "from", "[I", "RentedLooks") ∈ nstF := List.mem_of_getElem? (i := 6) rfl
theorem wnf_X8_166 : (RX8, 166, "RentedLooks$Town", "to", "[I", "RentedLooks") ∈ nstF := List.mem_of_getElem? (i := 7) rfl
theorem wnf_X8_169 : (RX8, 169, "RentedLooks$Town", "clashing", "[I", "RentedLooks") ∈ nstF := List.mem_of_getElem? (i := 8) rfl
theorem wnf_X1_50 : (RX1, 50, "RentedLooks$Town", "hour", "[I", "RentedLooks") ∈ nstF := List.mem_of_getElem? (i := 9) rfl
theorem wnf_X8_178 : (RX8, 178, "RentedLooks$Town", "hour", "[I", "RentedLooks") ∈ nstF := List.mem_of_getElem? (i := 10) rfl
theorem wnf_X2_84 : (RX2, 84, "RentedLooks$Town", "hour", "[I", "RentedLooks") ∈ nstF := List.mem_of_getElem? (i := 11) rfl
theorem wnf_X8_181 : (RX8, 181, "RentedLooks$Town", "low", "[I", "RentedLooks") ∈ nstF := List.mem_of_getElem? (i := 12) rfl
theorem wnf_X2_78 : (RX2, 78, "RentedLooks$Town", "low", "[I", "RentedLooks") ∈ nstF := List.mem_of_getElem? (i := 13) rfl
theorem wnf_X8_184 : (RX8, 184, "RentedLooks$Town", "high", "[I", "RentedLooks") ∈ nstF := List.mem_of_getElem? (i := 14) rfl
theorem wnf_X2_81 : (RX2, 81, "RentedLooks$Town", "high", "[I", "RentedLooks") ∈ nstF := List.mem_of_getElem? (i := 15) rfl
theorem wnf_X2_33 : (RX2, 33, "RentedLooks$Town", "parts", "I", "RentedLooks") ∈ nstF := List.mem_of_getElem? (i := 16) rfl
theorem wnf_X3_71 : (RX3, 71, "RentedLooks$Town", "parts", "I", "RentedLooks") ∈ nstF := List.mem_of_getElem? (i := 17) rfl
theorem wnf_X8_123 : (RX8, 123, "RentedLooks$Town", "parts", "I", "RentedLooks") ∈ nstF := List.mem_of_getElem? (i := 18) rfl
theorem wnf_X3_92 : (RX3, 92, "RentedLooks$Town", "clashes", "I", "RentedLooks") ∈ nstF := List.mem_of_getElem? (i := 19) rfl
theorem wnf_X8_129 : (RX8, 129, "RentedLooks$Town", "clashes", "I", "RentedLooks") ∈ nstF := List.mem_of_getElem? (i := 20) rfl
theorem wnf_X1_44 : (RX1, 44, "RentedLooks$Town", "scenes", "I", "RentedLooks") ∈ nstF := List.mem_of_getElem? (i := 21) rfl
theorem wnf_X3_102 : (RX3, 102, "RentedLooks$Town", "scenes", "I", "RentedLooks") ∈ nstF := List.mem_of_getElem? (i := 22) rfl
theorem wnf_X8_126 : (RX8, 126, "RentedLooks$Town", "scenes", "I", "RentedLooks") ∈ nstF := List.mem_of_getElem? (i := 23) rfl
theorem wnf_X8_107 : (RX8, 107, "RentedLooks$Reader", "place", "I", "RentedLooks") ∈ nstF := List.mem_of_getElem? (i := 24) rfl
theorem wnf_X2_49 : (RX2, 49, "RentedLooks$State", "widths", "[I", "RentedLooks") ∈ nstF := List.mem_of_getElem? (i := 25) rfl
theorem wnf_X8_157 : (RX8, 157, "RentedLooks$State", "widths", "[I", "RentedLooks") ∈ nstF := List.mem_of_getElem? (i := 26) rfl
theorem wnf_X2_58 : (RX2, 58, "RentedLooks$State", "prices", "[I", "RentedLooks") ∈ nstF := List.mem_of_getElem? (i := 27) rfl
theorem wnf_X8_160 : (RX8, 160, "RentedLooks$State", "prices", "[I", "RentedLooks") ∈ nstF := List.mem_of_getElem? (i := 28) rfl
theorem wnf_X8_172 : (RX8, 172, "RentedLooks$State", "worn", "[I", "RentedLooks") ∈ nstF := List.mem_of_getElem? (i := 29) rfl
theorem wnf_X8_135 : (RX8, 135, "RentedLooks$State", "spent", "I", "RentedLooks") ∈ nstF := List.mem_of_getElem? (i := 30) rfl
theorem wnf_X8_138 : (RX8, 138, "RentedLooks$State", "days", "I", "RentedLooks") ∈ nstF := List.mem_of_getElem? (i := 31) rfl
theorem wnf_X8_132 : (RX8, 132, "RentedLooks$State", "lawNow", "I", "RentedLooks") ∈ nstF := List.mem_of_getElem? (i := 32) rfl
theorem wnf_X8_280 : (RX8, 280, "RentedLooks$State", "seedNow", "I", "RentedLooks") ∈ nstF := List.mem_of_getElem? (i := 33) rfl
theorem wnf_X1_64 : (RX1, 64, "RentedLooks$Looks", "count", "I", "RentedLooks") ∈ nstF := List.mem_of_getElem? (i := 34) rfl
theorem wnf_X4_44 : (RX4, 44, "RentedLooks$Looks", "count", "I", "RentedLooks") ∈ nstF := List.mem_of_getElem? (i := 35) rfl
theorem wnf_X8_141 : (RX8, 141, "RentedLooks$Looks", "count", "I", "RentedLooks") ∈ nstF := List.mem_of_getElem? (i := 36) rfl
theorem wnf_X8_263 : (RX8, 263, "RentedLooks$Dresser", "worn", "[I", "RentedLooks") ∈ nstF := List.mem_of_getElem? (i := 37) rfl
theorem wnf_X8_206 : (RX8, 206, "RentedLooks$Dresser", "lookOf", "[I", "RentedLooks") ∈ nstF := List.mem_of_getElem? (i := 38) rfl
theorem wnf_X8_203 : (RX8, 203, "RentedLooks$Dresser", "total", "I", "RentedLooks") ∈ nstF := List.mem_of_getElem? (i := 39) rfl
theorem wnf_X8_119 : (RX8, 119, "RentedLooks$Sightings", "count", "I", "RentedLooks") ∈ nstF := List.mem_of_getElem? (i := 40) rfl
theorem wnf_X8_122 : (RX8, 122, "RentedLooks$Book", "count", "I", "RentedLooks") ∈ nstF := List.mem_of_getElem? (i := 41) rfl
theorem wnm_X8_9 : (RX8, 9, yX6_init, "RentedLooks") ∈ nstM := List.mem_of_getElem? (i := 0) rfl
theorem wnm_X8_18 : (RX8, 18, yX7_init, "RentedLooks") ∈ nstM := List.mem_of_getElem? (i := 1) rfl
theorem wnm_X8_28 : (RX8, 28, yX3_init, "RentedLooks") ∈ nstM := List.mem_of_getElem? (i := 2) rfl
theorem wnm_X8_37 : (RX8, 37, yX5_init, "RentedLooks") ∈ nstM := List.mem_of_getElem? (i := 3) rfl
theorem wnm_X8_54 : (RX8, 54, yX2_init, "RentedLooks") ∈ nstM := List.mem_of_getElem? (i := 4) rfl
theorem wnm_X8_63 : (RX8, 63, yX1_init, "RentedLooks") ∈ nstM := List.mem_of_getElem? (i := 5) rfl
theorem wnm_X8_72 : (RX8, 72, yX4_init, "RentedLooks") ∈ nstM := List.mem_of_getElem? (i := 6) rfl
theorem wnm_X8_79 : (RX8, 79, yX0_init, "RentedLooks") ∈ nstM := List.mem_of_getElem? (i := 7) rfl
theorem wnm_X8_99 : (RX8, 99, yX6_add, "RentedLooks") ∈ nstM := List.mem_of_getElem? (i := 8) rfl
theorem wnm_X8_103 : (RX8, 103, yX3_readTown, "RentedLooks") ∈ nstM := List.mem_of_getElem? (i := 9) rfl
theorem wnm_X3_23 : (RX3, 23, yX7_clear, "RentedLooks") ∈ nstM := List.mem_of_getElem? (i := 10) rfl
theorem wnm_X3_122 : (RX3, 122, yX6_byteAt, "RentedLooks") ∈ nstM := List.mem_of_getElem? (i := 11) rfl
theorem wnm_X3_109 : (RX3, 109, yX6_isLetter, "RentedLooks") ∈ nstM := List.mem_of_getElem? (i := 12) rfl
theorem wnm_X3_50 : (RX3, 50, yX6_stands, "RentedLooks") ∈ nstM := List.mem_of_getElem? (i := 13) rfl
theorem wnm_X3_119 : (RX3, 119, yX6_isFigure, "RentedLooks") ∈ nstM := List.mem_of_getElem? (i := 14) rfl
theorem wnm_X3_85 : (RX3, 85, yX7_addPart, "RentedLooks") ∈ nstM := List.mem_of_getElem? (i := 15) rfl
theorem wnm_X3_89 : (RX3, 89, yX7_setHoursOfLatest, "RentedLooks") ∈ nstM := List.mem_of_getElem? (i := 16) rfl
theorem wnm_X3_95 : (RX3, 95, yX7_isClash, "RentedLooks") ∈ nstM := List.mem_of_getElem? (i := 17) rfl
theorem wnm_X7_56 : (RX7, 56, yX8_has, "RentedLooks") ∈ nstM := List.mem_of_getElem? (i := 18) rfl
theorem wnm_X3_99 : (RX3, 99, yX7_addClash, "RentedLooks") ∈ nstM := List.mem_of_getElem? (i := 19) rfl
theorem wnm_X3_105 : (RX3, 105, yX7_addScene, "RentedLooks") ∈ nstM := List.mem_of_getElem? (i := 20) rfl
theorem wnm_X8_110 : (RX8, 110, yX7_copyFrom, "RentedLooks") ∈ nstM := List.mem_of_getElem? (i := 21) rfl
theorem wnm_X7_60 : (RX7, 60, yX8_copyRow, "RentedLooks") ∈ nstM := List.mem_of_getElem? (i := 22) rfl
theorem wnm_X8_113 : (RX8, 113, yX5_beginIn, "RentedLooks") ∈ nstM := List.mem_of_getElem? (i := 23) rfl
theorem wnm_X5_26 : (RX5, 26, yX8_copyRow, "RentedLooks") ∈ nstM := List.mem_of_getElem? (i := 24) rfl
theorem wnm_X8_116 : (RX8, 116, yX2_build, "RentedLooks") ∈ nstM := List.mem_of_getElem? (i := 25) rfl
theorem wnm_X2_42 : (RX2, 42, yX7_isOfKind, "RentedLooks") ∈ nstM := List.mem_of_getElem? (i := 26) rfl
theorem wnm_X2_46 : (RX2, 46, yX7_isClash, "RentedLooks") ∈ nstM := List.mem_of_getElem? (i := 27) rfl
theorem wnm_X8_142 : (RX8, 142, yX2_widthsIf, "RentedLooks") ∈ nstM := List.mem_of_getElem? (i := 28) rfl
theorem wnm_X2_65 : (RX2, 65, yX7_hasPart, "RentedLooks") ∈ nstM := List.mem_of_getElem? (i := 29) rfl
theorem wnm_X2_72 : (RX2, 72, yX8_has, "RentedLooks") ∈ nstM := List.mem_of_getElem? (i := 30) rfl
theorem wnm_X8_146 : (RX8, 146, yX7_hasPart, "RentedLooks") ∈ nstM := List.mem_of_getElem? (i := 31) rfl
theorem wnm_X8_175 : (RX8, 175, yX7_hasScene, "RentedLooks") ∈ nstM := List.mem_of_getElem? (i := 32) rfl
theorem wnm_X8_187 : (RX8, 187, yX2_partsOf, "RentedLooks") ∈ nstM := List.mem_of_getElem? (i := 33) rfl
theorem wnm_X8_191 : (RX8, 191, yX2_widthOf, "RentedLooks") ∈ nstM := List.mem_of_getElem? (i := 34) rfl
theorem wnm_X8_194 : (RX8, 194, yX2_priceOf, "RentedLooks") ∈ nstM := List.mem_of_getElem? (i := 35) rfl
theorem wnm_X8_197 : (RX8, 197, yX2_cheapestFor, "RentedLooks") ∈ nstM := List.mem_of_getElem? (i := 36) rfl
theorem wnm_X2_75 : (RX2, 75, yX7_hasScene, "RentedLooks") ∈ nstM := List.mem_of_getElem? (i := 37) rfl
theorem wnm_X2_87 : (RX2, 87, yX7_freeIn, "RentedLooks") ∈ nstM := List.mem_of_getElem? (i := 38) rfl
theorem wnm_X8_219 : (RX8, 219, yX1_gather, "RentedLooks") ∈ nstM := List.mem_of_getElem? (i := 39) rfl
theorem wnm_X1_53 : (RX1, 53, yX7_freeIn, "RentedLooks") ∈ nstM := List.mem_of_getElem? (i := 40) rfl
theorem wnm_X1_60 : (RX1, 60, yX8_copyRow, "RentedLooks") ∈ nstM := List.mem_of_getElem? (i := 41) rfl
theorem wnm_X1_69 : (RX1, 69, yX2_isFor, "RentedLooks") ∈ nstM := List.mem_of_getElem? (i := 42) rfl
theorem wnm_X1_73 : (RX1, 73, yX2_partsOf, "RentedLooks") ∈ nstM := List.mem_of_getElem? (i := 43) rfl
theorem wnm_X8_226 : (RX8, 226, yX1_choose, "RentedLooks") ∈ nstM := List.mem_of_getElem? (i := 44) rfl
theorem wnm_X1_87 : (RX1, 87, yX8_sumOver, "RentedLooks") ∈ nstM := List.mem_of_getElem? (i := 45) rfl
theorem wnm_X8_212 : (RX8, 212, yX7_ownedBy, "RentedLooks") ∈ nstM := List.mem_of_getElem? (i := 46) rfl
theorem wnm_X8_215 : (RX8, 215, yX1_priceOfWorn, "RentedLooks") ∈ nstM := List.mem_of_getElem? (i := 47) rfl
theorem wnm_X8_222 : (RX8, 222, yX5_raisePrices, "RentedLooks") ∈ nstM := List.mem_of_getElem? (i := 48) rfl
theorem wnm_X5_52 : (RX5, 52, yX8_has, "RentedLooks") ∈ nstM := List.mem_of_getElem? (i := 49) rfl
theorem wnm_X8_238 : (RX8, 238, yX7_freeIn, "RentedLooks") ∈ nstM := List.mem_of_getElem? (i := 50) rfl
theorem wnm_X8_241 : (RX8, 241, yX2_mayMarry, "RentedLooks") ∈ nstM := List.mem_of_getElem? (i := 51) rfl
theorem wnm_X8_245 : (RX8, 245, yX4_add, "RentedLooks") ∈ nstM := List.mem_of_getElem? (i := 52) rfl
theorem wnm_X8_248 : (RX8, 248, yX4_mayBeWorn, "RentedLooks") ∈ nstM := List.mem_of_getElem? (i := 53) rfl
theorem wnm_X4_39 : (RX4, 39, yX7_freeIn, "RentedLooks") ∈ nstM := List.mem_of_getElem? (i := 54) rfl
theorem wnm_X4_30 : (RX4, 30, yX2_partsOf, "RentedLooks") ∈ nstM := List.mem_of_getElem? (i := 55) rfl
theorem wnm_X4_36 : (RX4, 36, yX2_widthOf, "RentedLooks") ∈ nstM := List.mem_of_getElem? (i := 56) rfl
theorem wnm_X8_251 : (RX8, 251, yX4_surelyWorn, "RentedLooks") ∈ nstM := List.mem_of_getElem? (i := 57) rfl
theorem wnm_X8_254 : (RX8, 254, yX4_firstStrange, "RentedLooks") ∈ nstM := List.mem_of_getElem? (i := 58) rfl
theorem wnm_X8_264 : (RX8, 264, yX5_wearHour, "RentedLooks") ∈ nstM := List.mem_of_getElem? (i := 59) rfl
theorem wnm_X8_267 : (RX8, 267, yX5_wearOut, "RentedLooks") ∈ nstM := List.mem_of_getElem? (i := 60) rfl
theorem wnm_X8_260 : (RX8, 260, yX5_drawPrices, "RentedLooks") ∈ nstM := List.mem_of_getElem? (i := 61) rfl
theorem wnm_X8_276 : (RX8, 276, yX0_add, "RentedLooks") ∈ nstM := List.mem_of_getElem? (i := 62) rfl
theorem wnm_X8_277 : (RX8, 277, yX0_firstWrong, "RentedLooks") ∈ nstM := List.mem_of_getElem? (i := 63) rfl
theorem wnm_X0_26 : (RX0, 26, yX7_isFree, "RentedLooks") ∈ nstM := List.mem_of_getElem? (i := 64) rfl
theorem wnm_X8_287 : (RX8, 287, yX5_copyFrom, "RentedLooks") ∈ nstM := List.mem_of_getElem? (i := 65) rfl
