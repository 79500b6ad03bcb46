/-! the relation of the two sides -/
/-- the town -/
def qTW (D : Nat → Nat → Nat) (M : gM) : Prop :=
  M 3 10 = nI (D 0 0) ∧ M 3 12 = nI (D 0 1) ∧ M 3 11 = nI (D 0 2) ∧ M 108 0 = nI (D 0 0) ∧ M 108 1 = nI (D 0 1) ∧
  (∀ p, p < D 0 0 → M 4 p = nI (D 1 p) ∧ M 5 p = nI (D 2 p) ∧ M 8 p = nI (D 6 p) ∧ M 9 p = nI (D 7 p) ∧ M 10 p = nI (D 8 p) ∧
    M 98 p = nI (D 1 p) ∧ M 99 p = nI (D 2 p) ∧ M 102 p = nI (D 6 p) ∧ M 103 p = nI (D 7 p) ∧ M 104 p = nI (D 8 p)) ∧
  (∀ s, s < D 0 1 → M 11 s = nI (D 9 s) ∧ M 12 s = nI (D 10 s) ∧ M 13 s = nI (D 11 s) ∧ M 105 s = nI (D 9 s) ∧ M 106 s = nI (D 10 s) ∧ M 107 s = nI (D 11 s))
/-- what goes on: a state of the class at t, a row of the model at w -/
def qSV (n : Nat) (D : Nat → Nat → Nat) (M : gM) (t w : Nat) : Prop :=
  M t 3 = nI (D 0 5) ∧ M t 5 = nI (D 0 4) ∧ M t 6 = nI (D 0 10) ∧ M 96 (w + 30) = nI (D 0 5) ∧ M 96 (w + 31) = nI (D 0 4) ∧ M 96 (w + 33) = nI (D 0 10) ∧ M 96 (w + 32) = M t 4 ∧
  (∀ p, p < n → M (t + 1) p = nI (D 3 p) ∧ M (t + 2) p = nI (D 4 p) ∧ M 96 (w + p) = nI (D 3 p) ∧ M 96 (w + (10 + p)) = nI (D 4 p) ∧ M 96 (w + (20 + p)) = nI (D 5 p)) ∧
  ∀ p, p < 10 → M (t + 3) p = nI (D 5 p)
/-- its bounds -/
def qBV (n : Nat) (D : Nat → Nat → Nat) : Prop :=
  D 0 4 ≤ 1 ∧ D 0 5 ≤ 999999999 ∧ D 0 10 < 2 ^ 31 ∧ (∀ p, p < n → D 3 p ≤ 9 ∧ D 4 p ≤ 99) ∧ (∀ p, p < 10 → D 5 p ≤ 9) ∧ ∀ p, n ≤ p → p < 10 → D 5 p = 0
/-- the text -/
def qTX (D : Nat → Nat → Nat) (M : gM) : Prop :=
  M 1 1 = nI (D 0 3) ∧ M 95 14 = nI (D 0 3) ∧ ∀ i, i < D 0 3 → M 2 i = nI (D 12 i) ∧ M 109 i = nI (D 12 i)
/-- the looks -/
def qmk (D : Nat → Nat → Nat) (i : Nat) : Nat := 2 ^ D 17 i ||| 2 ^ D 18 i ||| 2 ^ D 19 i
def qLK (D : Nat → Nat → Nat) (M : gM) : Prop :=
  M 39 5 = nI (D 0 9) ∧ M 95 21 = nI (D 0 9) ∧ ∀ i, i < D 0 9 → M 40 i = nI (D 17 i) ∧ M 41 i = nI (D 18 i) ∧ M 42 i = nI (D 19 i) ∧ M 110 i = nI (qmk D i)
/-- the sightings, the book -/
def qSG (D : Nat → Nat → Nat) (M : gM) : Prop :=
  M 88 4 = nI (D 0 7) ∧ M 95 30 = nI (D 0 7) ∧ ∀ i, i < D 0 7 → M 89 i = nI (D 13 i) ∧ M 90 i = nI (D 14 i) ∧ M 116 i = nI (D 13 i) ∧ M 117 i = nI (D 14 i)
def qBK (D : Nat → Nat → Nat) (M : gM) : Prop :=
  M 91 3 = nI (D 0 8) ∧ M 95 33 = nI (D 0 8) ∧ ∀ i, i < D 0 8 → M 92 i = nI (D 15 i) ∧ M 93 i = nI (D 16 i) ∧ M 118 i = nI (D 15 i) ∧ M 119 i = nI (D 16 i)
/-- fault and images -/
def qFI (n : Nat) (M : gM) : Prop :=
  M 95 19 = M 0 13 ∧ ∀ i, i < 2 → M 97 i = M 38 i ∧ (M 38 i = 0 ∨ M 38 i = 1) ∧ (M 38 i = 1 → ∃ E, qBV n E ∧ qSV n E M (30 + 4 * i) (80 + 40 * i))
/-- bounds of a town -/
def qBT (D : Nat → Nat → Nat) : Prop :=
  D 0 0 ≤ 10 ∧ D 0 1 ≤ 8 ∧ D 0 2 ≤ 15 ∧
  (∀ p, p < D 0 0 → D 1 p ≤ 2 ∧ D 2 p ≤ 3 ∧ D 6 p ≤ 11 ∧ D 7 p ≤ 11 ∧ D 8 p < 2 ^ D 0 0) ∧
  (∀ s, s < D 0 1 → D 9 s ≤ 11 ∧ D 10 s ≤ 27 ∧ D 11 s ≤ 27) ∧
  fb_sm (fun p => fb_ct (fun q => (D 8 p).testBit q) 28) (D 0 0) = 2 * D 0 2
/-- bounds of the looks -/
def qBL (D : Nat → Nat → Nat) : Prop :=
  D 0 9 ≤ 36 ∧ ∀ i, i < D 0 9 → D 17 i < D 0 0 ∧ D 18 i < D 0 0 ∧ D 19 i < D 0 0 ∧ D 1 (D 17 i) = 0 ∧ D 1 (D 18 i) = 1 ∧ D 1 (D 19 i) = 2
/-- further bounds -/
def qBX (D : Nat → Nat → Nat) : Prop :=
  D 0 3 ≤ 400 ∧ D 0 7 ≤ 20 ∧ D 0 8 ≤ 40 ∧ (∀ i, i < D 0 3 → D 12 i ≤ 255) ∧ (∀ i, i < D 0 7 → D 13 i ≤ 11 ∧ D 14 i ≤ 27) ∧ ∀ i, i < D 0 8 → D 15 i ≤ 11 ∧ D 16 i < D 0 0
def qWF (D : Nat → Nat → Nat) : Prop := qBT D ∧ qBL D ∧ qBX D ∧ qBV (D 0 0) D
/-- what the two sides have alike, the numbers told by D -/
def qRC (D : Nat → Nat → Nat) (M : gM) : Prop := qTW D M ∧ qSV (D 0 0) D M 26 0 ∧ qTX D M ∧ qLK D M ∧ qSG D M ∧ qBK D M ∧ qFI (D 0 0) M ∧ M 95 22 = 0
def qR (M : gM) : Prop := ∃ D, qWF D ∧ qRC D M
set_option maxRecDepth 20000 in
theorem qR_0 : qR gM0 := by
  refine ⟨fun _ _ => 0, ⟨?_, ?_, ?_, ?_⟩, ?_⟩
  · refine ⟨Nat.zero_le _, Nat.zero_le _, Nat.zero_le _, fun p hp => absurd hp (Nat.not_lt_zero _), fun p hp => absurd hp (Nat.not_lt_zero _), rfl⟩
  · exact ⟨Nat.zero_le _, fun p hp => absurd hp (Nat.not_lt_zero _)⟩
  · exact ⟨Nat.zero_le _, Nat.zero_le _, Nat.zero_le _, fun p hp => absurd hp (Nat.not_lt_zero _), fun p hp => absurd hp (Nat.not_lt_zero _), fun p hp => absurd hp (Nat.not_lt_zero _)⟩
  · exact ⟨Nat.zero_le _, Nat.zero_le _, by decide, fun p hp => absurd hp (Nat.not_lt_zero _), fun p hp => Nat.zero_le _, fun p _ _ => rfl⟩
  · refine ⟨⟨rfl, rfl, rfl, rfl, rfl, fun p hp => absurd hp (Nat.not_lt_zero _), fun p hp => absurd hp (Nat.not_lt_zero _)⟩, ⟨rfl, rfl, rfl, rfl, rfl, rfl, rfl, fun p hp => absurd hp (Nat.not_lt_zero _), fun p _ => rfl⟩, ⟨rfl, rfl, fun p hp => absurd hp (Nat.not_lt_zero _)⟩, ⟨rfl, rfl, fun p hp => absurd hp (Nat.not_lt_zero _)⟩, ⟨rfl, rfl, fun p hp => absurd hp (Nat.not_lt_zero _)⟩, ⟨rfl, rfl, fun p hp => absurd hp (Nat.not_lt_zero _)⟩, ⟨rfl, ?_⟩, rfl⟩
    intro i hi
    refine ⟨rfl, .inl rfl, fun h => ?_⟩
    have e : gM0 38 i = 0 := rfl
    rw [e] at h
    exact absurd h (by decide)
