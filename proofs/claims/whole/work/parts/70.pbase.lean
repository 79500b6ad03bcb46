/-! pure basics: numbers -/
theorem pl_lit (n : Nat) : (OfNat.ofNat n : Int32) = nI n := rfl
theorem pl_lt {α β : Type} (e : α) (f : α → β) : lt_ e f = f e := rfl
theorem pl_ltM {β : Type} (e : gM) (f : gM → β) : ltM e f = f e := rfl
theorem ib_n {k n : Nat} (h : k < n) (hn : n < 2 ^ 31) : ib (nI k) n = true := by
  unfold ib
  rw [nI_toInt (by omega)]
  exact decide_eq_true ⟨by omega, by omega⟩
theorem ck_t {ρ : Type} (o : Option ρ) : ck true o = o := rfl
theorem ckh_t {ρ : Type} (o : Option ρ) : ckh true o = o := rfl
theorem ck_n {ρ : Type} {k n : Nat} (o : Option ρ) (h : k < n) (hn : n < 2 ^ 31) : ck (ib (nI k) n) o = o := by rw [ib_n h hn]; rfl
theorem ckh_n {ρ : Type} {k n : Nat} (o : Option ρ) (h : k < n) (hn : n < 2 ^ 31) : ckh (ib (nI k) n) o = o := by rw [ib_n h hn]; rfl
theorem nI_ne_m1 {n : Nat} (h : n < 2 ^ 31) : ¬ nI n = (-1 : Int32) := by
  intro e
  have h1 := congrArg Int32.toInt e
  rw [nI_toInt h] at h1
  have h2 : (-1 : Int32).toInt = -1 := by decide
  omega
theorem nI_m1 (n : Nat) : nI (n + 1) + (-1 : Int32) = nI n := pk_m1 n
theorem nI_subn {a b : Nat} (h : b ≤ a) : nI a - nI b = nI (a - b) := pk_sub h
theorem nI_lt0 {n : Nat} (h : n < 2 ^ 31) : nI n < 0 ↔ False := ⟨fun q => nI_pos h q, False.elim⟩
theorem nI_inj {a b : Nat} (ha : a < 2 ^ 31) (hb : b < 2 ^ 31) (h : nI a = nI b) : a = b := (nI_eq ha hb).mp h
theorem nI_shl {p : Nat} (hp : p < 31) : (1 : Int32) <<< (nI p &&& 31) = nI (2 ^ p) := by
  rcases (by omega : p = 0 ∨ p = 1 ∨ p = 2 ∨ p = 3 ∨ p = 4 ∨ p = 5 ∨ p = 6 ∨ p = 7 ∨ p = 8 ∨ p = 9 ∨ p = 10 ∨ p = 11 ∨ p = 12 ∨ p = 13 ∨ p = 14 ∨ p = 15 ∨ p = 16 ∨ p = 17 ∨ p = 18 ∨ p = 19 ∨ p = 20 ∨ p = 21 ∨ p = 22 ∨ p = 23 ∨ p = 24 ∨ p = 25 ∨ p = 26 ∨ p = 27 ∨ p = 28 ∨ p = 29 ∨ p = 30) with h | h | h | h | h | h | h | h | h | h | h | h | h | h | h | h | h | h | h | h | h | h | h | h | h | h | h | h | h | h | h <;> subst h <;> decide +kernel
theorem nI_shr {a j : Nat} (ha : a < 2 ^ 31) (hj : j < 31) : nI a >>> (nI j &&& 31) = nI (a >>> j) := by
  have hs : ((nI j &&& 31).toBitVec.smod 32).toNat = j := s_l j (by omega)
  rw [pk_shrN ha _ j hs, Nat.shiftRight_eq_div_pow]
theorem nI_bit {a j : Nat} (ha : a < 2 ^ 31) (hj : j < 31) : (nI a >>> (nI j &&& 31)) &&& (1 : Int32) = nI (if a.testBit j then 1 else 0) := by
  rw [nI_shr ha hj, pl_lit, fa_and]
  congr 1
  rw [Nat.testBit_eq_decide_div_mod_eq]
  have e : (a >>> j) &&& 1 = (a / 2 ^ j) % 2 := by rw [Nat.shiftRight_eq_div_pow, Nat.and_one_is_mod]
  rw [e]
  rcases Nat.mod_two_eq_zero_or_one (a / 2 ^ j) with h | h <;> simp [h]
/-- a without b -/
def andn (a b : Nat) : Nat := a ^^^ (a &&& b)
theorem andn_bit (a b i : Nat) : (andn a b).testBit i = (a.testBit i && !b.testBit i) := by
  unfold andn
  rw [Nat.testBit_xor, Nat.testBit_and]
  cases a.testBit i <;> cases b.testBit i <;> rfl
theorem nI_andn (a b : Nat) : nI a &&& (nI b ^^^ (-1 : Int32)) = nI (andn a b) := by
  apply b_ext
  intro i hi
  have key : ∀ n : Nat, bt (nI n) i = n.testBit i := by
    intro n
    show (BitVec.ofNat 32 n).getLsbD i = _
    rw [BitVec.getLsbD_ofNat]
    simp [hi]
  rw [b_and, b_xor, b_m1 i hi, key, key, key, andn_bit]
  cases a.testBit i <;> cases b.testBit i <;> rfl
