/-! frames: a method changes only the objects of its list -/
def ag (L : List Nat) (M0 N : gM) : Prop := ∀ k, k ∉ L → N k = M0 k
theorem ag_rf {L : List Nat} {M : gM} : ag L M M := fun _ _ => rfl
def Fr {ρ : Type} (L : List Nat) (M0 : gM) (rM : ρ → gM) (o : Option ρ) : Prop := ∀ r, o = some r → ag L M0 (rM r)
section FRS
variable {ρ σ : Type} {L L1 : List Nat} {M0 N : gM} {rM : ρ → gM} {o A B : Option ρ}
theorem fr_ck {b : Bool} (h : Fr L M0 rM o) : Fr L M0 rM (ck b o) := fun r hr => h r (ck_some hr).2
theorem fr_ckh {b : Bool} (h : b = true → Fr L M0 rM o) : Fr L M0 rM (ckh b o) := fun r hr => h (ck_some (show ck b o = some r from hr)).1 r (ck_some (show ck b o = some r from hr)).2
theorem fr_ite {c : Prop} [Decidable c] (h1 : Fr L M0 rM A) (h2 : Fr L M0 rM B) : Fr L M0 rM (if c then A else B) := by
  intro r hr
  by_cases hc : c
  · rw [if_pos hc] at hr; exact h1 r hr
  · rw [if_neg hc] at hr; exact h2 r hr
theorem fr_lt {α : Type} {e : α} {f : α → Option ρ} (h : ∀ y, Fr L M0 rM (f y)) : Fr L M0 rM (lt_ e f) := h e
theorem fr_ltM {a i : Nat} {v : Int32} {f : gM → Option ρ} (h : ag L M0 N) (ha : a ∈ L) (k : ∀ N', ag L M0 N' → Fr L M0 rM (f N')) : Fr L M0 rM (ltM (gst N a i v) f) :=
  k _ (fun j hj => (gst_ne N a i v (fun q => hj (by rw [q]; exact ha))).trans (h j hj))
theorem fr_none : Fr L M0 rM (none : Option ρ) := fun r hr => by cases hr
theorem fr_some {r : ρ} (h : ag L M0 (rM r)) : Fr L M0 rM (some r) := fun r' hr => by cases hr; exact h
theorem fr_bind {o1 : Option σ} {f : σ → Option ρ} (h : ∀ r, Fr L M0 rM (f r)) : Fr L M0 rM (o1.bind f) := by
  intro r hr
  cases ho : o1 with
  | none => rw [ho] at hr; cases hr
  | some x => rw [ho] at hr; exact h x r hr
theorem fr_sub {rS : σ → gM} {o1 : Option σ} (h : Fr L1 N rS o1) (hs : ∀ k, k ∈ L1 → k ∈ L) : Fr L N rS o1 := fun r hr k hk => h r hr k (fun q => hk (hs k q))
theorem fr_bindW {o1 : Option (Int32 × gM)} {f : Int32 × gM → Option ρ} (h : Fr L N rMW o1) (hN : ag L M0 N) (k : ∀ r : Int32 × gM, ag L M0 r.2 → Fr L M0 rM (f r)) : Fr L M0 rM (o1.bind f) := by
  intro r hr
  cases ho : o1 with
  | none => rw [ho] at hr; cases hr
  | some x => rw [ho] at hr; exact k x (fun j hj => (h x ho j hj).trans (hN j hj)) r hr
theorem fr_bindV {o1 : Option gM} {f : gM → Option ρ} (h : Fr L N rMV o1) (hN : ag L M0 N) (k : ∀ r : gM, ag L M0 r → Fr L M0 rM (f r)) : Fr L M0 rM (o1.bind f) := by
  intro r hr
  cases ho : o1 with
  | none => rw [ho] at hr; cases hr
  | some x => rw [ho] at hr; exact k x (fun j hj => (h x ho j hj).trans (hN j hj)) r hr
end FRS
theorem rg_45 {j : Int32} (h : ib j 13 = true) (L : List Nat) (hL : ∀ k, k ∈ ([46, 47, 48, 49, 50, 51, 52, 53, 54, 55, 56, 57, 58] : List Nat) → k ∈ L) : rf 45 j.toNatClampNeg ∈ L := by
  have h2 := of_decide_eq_true h
  have h3 : j.toNatClampNeg < 13 := by
    show j.toInt.toNat < 13
    omega
  exact hL _ ((show ∀ k, k < 13 → rf 45 k ∈ ([46, 47, 48, 49, 50, 51, 52, 53, 54, 55, 56, 57, 58] : List Nat) by decide +kernel) _ h3)
theorem rg_59 {j : Int32} (h : ib j 13 = true) (L : List Nat) (hL : ∀ k, k ∈ ([60, 61, 62, 63, 64, 65, 66, 67, 68, 69, 70, 71, 72] : List Nat) → k ∈ L) : rf 59 j.toNatClampNeg ∈ L := by
  have h2 := of_decide_eq_true h
  have h3 : j.toNatClampNeg < 13 := by
    show j.toInt.toNat < 13
    omega
  exact hL _ ((show ∀ k, k < 13 → rf 59 k ∈ ([60, 61, 62, 63, 64, 65, 66, 67, 68, 69, 70, 71, 72] : List Nat) by decide +kernel) _ h3)
theorem rg_73 {j : Int32} (h : ib j 12 = true) (L : List Nat) (hL : ∀ k, k ∈ ([74, 75, 76, 77, 78, 79, 80, 81, 82, 83, 84, 85] : List Nat) → k ∈ L) : rf 73 j.toNatClampNeg ∈ L := by
  have h2 := of_decide_eq_true h
  have h3 : j.toNatClampNeg < 12 := by
    show j.toInt.toNat < 12
    omega
  exact hL _ ((show ∀ k, k < 12 → rf 73 k ∈ ([74, 75, 76, 77, 78, 79, 80, 81, 82, 83, 84, 85] : List Nat) by decide +kernel) _ h3)
abbrev fS_X0_add  : List Nat := [91, 92, 93]
theorem fr_X0_add (a0 : Int32) (a1 : Int32) (M : gM) : Fr fS_X0_add M rMW (f_X0_add a0 a1 M) := by
  unfold f_X0_add
  refine fr_ite ?_ ?_
  · refine fr_ck ?_
    refine fr_ltM ag_rf (by decide) (fun N4 hN4 => ?_)
    refine fr_ck ?_
    refine fr_ltM hN4 (by decide) (fun N5 hN5 => ?_)
    refine fr_ltM hN5 (by decide) (fun N6 hN6 => ?_)
    first | exact fr_some hN6 | exact fr_ck (fr_some hN6)
  · first | exact fr_some ag_rf | exact fr_ck (fr_some ag_rf)

abbrev fS_X1_addSet  : List Nat := [44, 46, 47, 48, 49, 50, 51, 52, 53, 54, 55, 56, 57, 58, 60, 61, 62, 63, 64, 65, 66, 67, 68, 69, 70, 71, 72]
theorem fr_X1_addSet_h93_b (F : Nat) (a0 : Int32) (a1 : Int32) (a2 : Int32)  {M0 : gM}  (k93 : Nat → Int32 → Int32 → Int32 → gM → Option gM) (hk93 : ∀ (y4 : Nat) (x5 : Int32) (x6 : Int32) (x7 : Int32) (M : gM) (hM : ag fS_X1_addSet M0 M) (hmy4 : y4 ∈ fS_X1_addSet), Fr fS_X1_addSet M0 rMV (k93 y4 x5 x6 x7 M)) (y4 : Nat) (x5 : Int32) (x6 : Int32) (x7 : Int32) (M : gM) (hM : ag fS_X1_addSet M0 M) (hmy4 : y4 ∈ fS_X1_addSet) : Fr fS_X1_addSet M0 rMV (f_X1_addSet_h93_b F a0 a1 a2  k93 y4 x5 x6 x7 M) := by
  unfold f_X1_addSet_h93_b
  refine fr_ite ?_ ?_
  · refine fr_ck ?_
    refine fr_ltM hM hmy4 (fun N14 hN14 => ?_)
    refine fr_ckh (fun hb15 => ?_)
    refine fr_ck ?_
    refine fr_ltM hN14 (rg_59 hb15 _ (by decide)) (fun N16 hN16 => ?_)
    refine fr_ck ?_
    refine fr_ltM hN16 (by decide) (fun N17 hN17 => ?_)
    exact fr_some hN17
  · refine fr_ck ?_
    refine fr_ck ?_
    refine fr_ltM hM hmy4 (fun N18 hN18 => ?_)
    refine fr_ckh (fun hb19 => ?_)
    refine fr_ckh (fun hb20 => ?_)
    refine fr_ck ?_
    refine fr_ck ?_
    refine fr_ltM hN18 (rg_59 hb19 _ (by decide)) (fun N21 hN21 => ?_)
    exact hk93 _ _ _ _ _ hN21 hmy4

theorem fr_X1_addSet_h93 (F : Nat) (a0 : Int32) (a1 : Int32) (a2 : Int32)  {M0 : gM}  : ∀ (n : Nat) (y4 : Nat) (x5 : Int32) (x6 : Int32) (x7 : Int32) (M : gM) (hM : ag fS_X1_addSet M0 M) (hmy4 : y4 ∈ fS_X1_addSet), Fr fS_X1_addSet M0 rMV (f_X1_addSet_h93 F a0 a1 a2  n y4 x5 x6 x7 M) := by
  intro n
  induction n with
  | zero =>
    intro y4 x5 x6 x7 M hM hmy4 r hr
    have hr2 : (none : Option gM) = some r := hr
    cases hr2
  | succ n ih =>
    intro y4 x5 x6 x7 M hM hmy4
    exact fr_X1_addSet_h93_b _ _ _ _   _ ih y4 x5 x6 x7 M hM hmy4
theorem fr_X1_addSet_b81 (F : Nat) (a0 : Int32) (a1 : Int32) (a2 : Int32)  {M0 : gM}  (y4 : Nat) (x5 : Int32) (x6 : Int32) (M : gM) (hM : ag fS_X1_addSet M0 M) (hmy4 : y4 ∈ fS_X1_addSet) : Fr fS_X1_addSet M0 rMV (f_X1_addSet_b81 F a0 a1 a2  y4 x5 x6 M) := by
  unfold f_X1_addSet_b81
  refine fr_ite ?_ ?_
  · exact fr_X1_addSet_h93 _ _ _ _ _ _ _ _ _ _ hM hmy4
  · exact fr_some hM

theorem fr_X1_addSet_b42 (F : Nat) (a0 : Int32) (a1 : Int32) (a2 : Int32)  {M0 : gM}  (y4 : Nat) (x5 : Int32) (x6 : Int32) (M : gM) (hM : ag fS_X1_addSet M0 M) (hmy4 : y4 ∈ fS_X1_addSet) : Fr fS_X1_addSet M0 rMV (f_X1_addSet_b42 F a0 a1 a2  y4 x5 x6 M) := by
  unfold f_X1_addSet_b42
  refine fr_ite ?_ ?_
  · exact fr_X1_addSet_b81 _ _ _ _ _ _ _ _ hM hmy4
  · refine fr_ck ?_
    refine fr_ite ?_ ?_
    · refine fr_ckh (fun hb22 => ?_)
      refine fr_ckh (fun hb23 => ?_)
      refine fr_ck ?_
      refine fr_ck ?_
      refine fr_ltM hM (rg_59 hb22 _ (by decide)) (fun N24 hN24 => ?_)
      exact fr_some hN24
    · exact fr_X1_addSet_b81 _ _ _ _ _ _ _ _ hM hmy4

theorem fr_X1_addSet_h20_b (F : Nat) (a0 : Int32) (a1 : Int32) (a2 : Int32)  {M0 : gM}  (k20 : Nat → Int32 → Int32 → gM → Option gM) (hk20 : ∀ (y4 : Nat) (x5 : Int32) (x6 : Int32) (M : gM) (hM : ag fS_X1_addSet M0 M) (hmy4 : y4 ∈ fS_X1_addSet), Fr fS_X1_addSet M0 rMV (k20 y4 x5 x6 M)) (y4 : Nat) (x5 : Int32) (x6 : Int32) (M : gM) (hM : ag fS_X1_addSet M0 M) (hmy4 : y4 ∈ fS_X1_addSet) : Fr fS_X1_addSet M0 rMV (f_X1_addSet_h20_b F a0 a1 a2  k20 y4 x5 x6 M) := by
  unfold f_X1_addSet_h20_b
  refine fr_ite ?_ ?_
  · exact fr_X1_addSet_b42 _ _ _ _ _ _ _ _ hM hmy4
  · refine fr_ck ?_
    refine fr_ite ?_ ?_
    · exact fr_X1_addSet_b42 _ _ _ _ _ _ _ _ hM hmy4
    · exact hk20 _ _ _ _ hM hmy4

theorem fr_X1_addSet_h20 (F : Nat) (a0 : Int32) (a1 : Int32) (a2 : Int32)  {M0 : gM}  : ∀ (n : Nat) (y4 : Nat) (x5 : Int32) (x6 : Int32) (M : gM) (hM : ag fS_X1_addSet M0 M) (hmy4 : y4 ∈ fS_X1_addSet), Fr fS_X1_addSet M0 rMV (f_X1_addSet_h20 F a0 a1 a2  n y4 x5 x6 M) := by
  intro n
  induction n with
  | zero =>
    intro y4 x5 x6 M hM hmy4 r hr
    have hr2 : (none : Option gM) = some r := hr
    cases hr2
  | succ n ih =>
    intro y4 x5 x6 M hM hmy4
    exact fr_X1_addSet_h20_b _ _ _ _   _ ih y4 x5 x6 M hM hmy4
theorem fr_X1_addSet (F : Nat) (a0 : Int32) (a1 : Int32) (a2 : Int32) (M : gM) : Fr fS_X1_addSet M rMV (f_X1_addSet F a0 a1 a2 M) := by
  unfold f_X1_addSet
  refine fr_ckh (fun hb25 => ?_)
  refine fr_ck ?_
  refine fr_lt (fun w26 => ?_)
  exact fr_X1_addSet_h20 _ _ _ _ _ _ _ _ _ ag_rf (rg_45 hb25 _ (by decide))

abbrev fS_X1_giveLooks  : List Nat := [87]
theorem fr_X1_giveLooks_h13_b (F : Nat) (a0 : Int32) (a1 : Int32)  {M0 : gM}  (k13 : Int32 → Int32 → gM → Option gM) (hk13 : ∀ (x3 : Int32) (x4 : Int32) (M : gM) (hM : ag fS_X1_giveLooks M0 M) , Fr fS_X1_giveLooks M0 rMV (k13 x3 x4 M)) (x3 : Int32) (x4 : Int32) (M : gM) (hM : ag fS_X1_giveLooks M0 M)  : Fr fS_X1_giveLooks M0 rMV (f_X1_giveLooks_h13_b F a0 a1  k13 x3 x4 M) := by
  unfold f_X1_giveLooks_h13_b
  refine fr_ite ?_ ?_
  · exact fr_some hM
  · refine fr_ck ?_
    refine fr_ite ?_ ?_
    · refine fr_ck ?_
      refine fr_ltM hM (by decide) (fun N4 hN4 => ?_)
      refine fr_lt (fun w5 => ?_)
      exact hk13 _ _ _ hN4
    · exact hk13 _ _ _ hM

theorem fr_X1_giveLooks_h13 (F : Nat) (a0 : Int32) (a1 : Int32)  {M0 : gM}  : ∀ (n : Nat) (x3 : Int32) (x4 : Int32) (M : gM) (hM : ag fS_X1_giveLooks M0 M) , Fr fS_X1_giveLooks M0 rMV (f_X1_giveLooks_h13 F a0 a1  n x3 x4 M) := by
  intro n
  induction n with
  | zero =>
    intro x3 x4 M hM  r hr
    have hr2 : (none : Option gM) = some r := hr
    cases hr2
  | succ n ih =>
    intro x3 x4 M hM 
    exact fr_X1_giveLooks_h13_b _ _ _   _ ih x3 x4 M hM 
theorem fr_X1_giveLooks (F : Nat) (a0 : Int32) (a1 : Int32) (M : gM) : Fr fS_X1_giveLooks M rMV (f_X1_giveLooks F a0 a1 M) := by
  unfold f_X1_giveLooks
  refine fr_lt (fun w6 => ?_)
  exact fr_X1_giveLooks_h13 _ _ _ _ _ _ _ ag_rf

abbrev fS_X1_choose  : List Nat := [43, 74, 75, 76, 77, 78, 79, 80, 81, 82, 83, 84, 85, 86, 87]
theorem fr_X1_choose_b153 (F : Nat) (a0 : Nat) (na0 : Nat) (a1 : Int32) (k103 : Int32 → Int32 → gM → Option gM) {M0 : gM} (hk103 : ∀ (x3 : Int32) (x4 : Int32) (M : gM) (hM : ag fS_X1_choose M0 M) , Fr fS_X1_choose M0 rMV (k103 x3 x4 M)) (x4 : Int32) (x5 : Int32) (s0 : Int32) (M : gM) (hM : ag fS_X1_choose M0 M)  : Fr fS_X1_choose M0 rMV (f_X1_choose_b153 F a0 na0 a1 k103 x4 x5 s0 M) := by
  unfold f_X1_choose_b153
  refine fr_ck ?_
  refine fr_ltM hM (by decide) (fun N17 hN17 => ?_)
  refine fr_ite ?_ ?_
  · refine fr_bindV (fr_sub (fr_X1_giveLooks _ _ _ _) (by decide)) hN17 (fun r20 hr20 => ?_)
    exact hk103 _ _ _ hr20
  · refine fr_ckh (fun hb18 => ?_)
    refine fr_ck ?_
    refine fr_bindV (fr_sub (fr_X1_giveLooks _ _ _ _) (by decide)) hN17 (fun r19 hr19 => ?_)
    exact hk103 _ _ _ hr19

theorem fr_X1_choose_b131 (F : Nat) (a0 : Nat) (na0 : Nat) (a1 : Int32) (k103 : Int32 → Int32 → gM → Option gM) {M0 : gM} (hk103 : ∀ (x3 : Int32) (x4 : Int32) (M : gM) (hM : ag fS_X1_choose M0 M) , Fr fS_X1_choose M0 rMV (k103 x3 x4 M)) (x4 : Int32) (s0 : Int32) (M : gM) (hM : ag fS_X1_choose M0 M)  : Fr fS_X1_choose M0 rMV (f_X1_choose_b131 F a0 na0 a1 k103 x4 s0 M) := by
  unfold f_X1_choose_b131
  refine fr_ite ?_ ?_
  · exact fr_X1_choose_b153 _ _ _ _ _ hk103 _ _ _ _ hM
  · refine fr_ckh (fun hb21 => ?_)
    refine fr_ck ?_
    exact fr_X1_choose_b153 _ _ _ _ _ hk103 _ _ _ _ hM

theorem fr_X1_choose_h103_b (F : Nat) (a0 : Nat) (na0 : Nat) (a1 : Int32)  {M0 : gM}  (k103 : Int32 → Int32 → gM → Option gM) (hk103 : ∀ (x3 : Int32) (x4 : Int32) (M : gM) (hM : ag fS_X1_choose M0 M) , Fr fS_X1_choose M0 rMV (k103 x3 x4 M)) (x3 : Int32) (x4 : Int32) (M : gM) (hM : ag fS_X1_choose M0 M)  : Fr fS_X1_choose M0 rMV (f_X1_choose_h103_b F a0 na0 a1  k103 x3 x4 M) := by
  unfold f_X1_choose_h103_b
  refine fr_ite ?_ ?_
  · refine fr_ite ?_ ?_
    · refine fr_ltM hM (by decide) (fun N22 hN22 => ?_)
      exact fr_some hN22
    · exact fr_some hM
  · refine fr_ite ?_ ?_
    · exact fr_X1_choose_b131 _ _ _ _ _ hk103 _ _ _ hM
    · refine fr_bind (fun r23 => ?_)
      exact fr_X1_choose_b131 _ _ _ _ _ hk103 _ _ _ hM

theorem fr_X1_choose_h103 (F : Nat) (a0 : Nat) (na0 : Nat) (a1 : Int32)  {M0 : gM}  : ∀ (n : Nat) (x3 : Int32) (x4 : Int32) (M : gM) (hM : ag fS_X1_choose M0 M) , Fr fS_X1_choose M0 rMV (f_X1_choose_h103 F a0 na0 a1  n x3 x4 M) := by
  intro n
  induction n with
  | zero =>
    intro x3 x4 M hM  r hr
    have hr2 : (none : Option gM) = some r := hr
    cases hr2
  | succ n ih =>
    intro x3 x4 M hM 
    exact fr_X1_choose_h103_b _ _ _ _   _ ih x3 x4 M hM 
theorem fr_X1_choose_h10_b (F : Nat) (a0 : Nat) (na0 : Nat) (a1 : Int32) (k3 : Int32 → gM → Option gM) {M0 : gM} (hk3 : ∀ (x3 : Int32) (M : gM) (hM : ag fS_X1_choose M0 M) , Fr fS_X1_choose M0 rMV (k3 x3 M)) (k10 : Int32 → Int32 → gM → Option gM) (hk10 : ∀ (x3 : Int32) (x4 : Int32) (M : gM) (hM : ag fS_X1_choose M0 M) , Fr fS_X1_choose M0 rMV (k10 x3 x4 M)) (x3 : Int32) (x4 : Int32) (M : gM) (hM : ag fS_X1_choose M0 M)  : Fr fS_X1_choose M0 rMV (f_X1_choose_h10_b F a0 na0 a1 k3 k10 x3 x4 M) := by
  unfold f_X1_choose_h10_b
  refine fr_ck ?_
  refine fr_ite ?_ ?_
  · exact hk3 _ _ hM
  · refine fr_ckh (fun hb24 => ?_)
    refine fr_ck ?_
    refine fr_bind (fun r25 => ?_)
    refine fr_ckh (fun hb26 => ?_)
    refine fr_ite ?_ ?_
    · refine fr_ck ?_
      refine fr_ltM hM (rg_73 hb26 _ (by decide)) (fun N30 hN30 => ?_)
      exact hk10 _ _ _ hN30
    · refine fr_ckh (fun hb27 => ?_)
      refine fr_ck ?_
      refine fr_bind (fun r28 => ?_)
      refine fr_ck ?_
      refine fr_ltM hM (rg_73 hb26 _ (by decide)) (fun N29 hN29 => ?_)
      exact hk10 _ _ _ hN29

theorem fr_X1_choose_h10 (F : Nat) (a0 : Nat) (na0 : Nat) (a1 : Int32) (k3 : Int32 → gM → Option gM) {M0 : gM} (hk3 : ∀ (x3 : Int32) (M : gM) (hM : ag fS_X1_choose M0 M) , Fr fS_X1_choose M0 rMV (k3 x3 M)) : ∀ (n : Nat) (x3 : Int32) (x4 : Int32) (M : gM) (hM : ag fS_X1_choose M0 M) , Fr fS_X1_choose M0 rMV (f_X1_choose_h10 F a0 na0 a1 k3 n x3 x4 M) := by
  intro n
  induction n with
  | zero =>
    intro x3 x4 M hM  r hr
    have hr2 : (none : Option gM) = some r := hr
    cases hr2
  | succ n ih =>
    intro x3 x4 M hM 
    exact fr_X1_choose_h10_b _ _ _ _ _ hk3 _ ih x3 x4 M hM 
theorem fr_X1_choose_h3_b (F : Nat) (a0 : Nat) (na0 : Nat) (a1 : Int32)  {M0 : gM}  (k3 : Int32 → gM → Option gM) (hk3 : ∀ (x3 : Int32) (M : gM) (hM : ag fS_X1_choose M0 M) , Fr fS_X1_choose M0 rMV (k3 x3 M)) (x3 : Int32) (M : gM) (hM : ag fS_X1_choose M0 M)  : Fr fS_X1_choose M0 rMV (f_X1_choose_h3_b F a0 na0 a1  k3 x3 M) := by
  unfold f_X1_choose_h3_b
  refine fr_ite ?_ ?_
  · refine fr_bind (fun r31 => ?_)
    refine fr_ltM hM (by decide) (fun N32 hN32 => ?_)
    exact fr_X1_choose_h103 _ _ _ _ _ _ _ _ hN32
  · exact fr_X1_choose_h10 _ _ _ _ _ hk3 _ _ _ _ hM

theorem fr_X1_choose_h3 (F : Nat) (a0 : Nat) (na0 : Nat) (a1 : Int32)  {M0 : gM}  : ∀ (n : Nat) (x3 : Int32) (M : gM) (hM : ag fS_X1_choose M0 M) , Fr fS_X1_choose M0 rMV (f_X1_choose_h3 F a0 na0 a1  n x3 M) := by
  intro n
  induction n with
  | zero =>
    intro x3 M hM  r hr
    have hr2 : (none : Option gM) = some r := hr
    cases hr2
  | succ n ih =>
    intro x3 M hM 
    exact fr_X1_choose_h3_b _ _ _ _   _ ih x3 M hM 
theorem fr_X1_choose (F : Nat) (a0 : Nat) (na0 : Nat) (a1 : Int32) (M : gM) : Fr fS_X1_choose M rMV (f_X1_choose F a0 na0 a1 M) := by
  unfold f_X1_choose
  exact fr_X1_choose_h3 _ _ _ _ _ _ _ ag_rf

abbrev fS_X8_copyRow (a1 : Nat) : List Nat := [a1]
theorem fr_X8_copyRow_h10_b (F : Nat) (a0 : Nat) (na0 : Nat) (a1 : Nat) (na1 : Nat)  {M0 : gM}  (k10 : Int32 → Int32 → gM → Option gM) (hk10 : ∀ (x2 : Int32) (x3 : Int32) (M : gM) (hM : ag (fS_X8_copyRow a1) M0 M) , Fr (fS_X8_copyRow a1) M0 rMV (k10 x2 x3 M)) (x2 : Int32) (x3 : Int32) (M : gM) (hM : ag (fS_X8_copyRow a1) M0 M)  : Fr (fS_X8_copyRow a1) M0 rMV (f_X8_copyRow_h10_b F a0 na0 a1 na1  k10 x2 x3 M) := by
  unfold f_X8_copyRow_h10_b
  refine fr_ite ?_ ?_
  · exact fr_some hM
  · refine fr_ck ?_
    refine fr_ck ?_
    refine fr_ltM hM (by simp) (fun N3 hN3 => ?_)
    exact hk10 _ _ _ hN3

theorem fr_X8_copyRow_h10 (F : Nat) (a0 : Nat) (na0 : Nat) (a1 : Nat) (na1 : Nat)  {M0 : gM}  : ∀ (n : Nat) (x2 : Int32) (x3 : Int32) (M : gM) (hM : ag (fS_X8_copyRow a1) M0 M) , Fr (fS_X8_copyRow a1) M0 rMV (f_X8_copyRow_h10 F a0 na0 a1 na1  n x2 x3 M) := by
  intro n
  induction n with
  | zero =>
    intro x2 x3 M hM  r hr
    have hr2 : (none : Option gM) = some r := hr
    cases hr2
  | succ n ih =>
    intro x2 x3 M hM 
    exact fr_X8_copyRow_h10_b _ _ _ _ _   _ ih x2 x3 M hM 
theorem fr_X8_copyRow (F : Nat) (a0 : Nat) (na0 : Nat) (a1 : Nat) (na1 : Nat) (M : gM) : Fr (fS_X8_copyRow a1) M rMV (f_X8_copyRow F a0 na0 a1 na1 M) := by
  unfold f_X8_copyRow
  refine fr_lt (fun w4 => ?_)
  exact fr_X8_copyRow_h10 _ _ _ _ _ _ _ _ _ ag_rf

abbrev fS_X1_dressOneMore  : List Nat := [44, 46, 47, 48, 49, 50, 51, 52, 53, 54, 55, 56, 57, 58, 60, 61, 62, 63, 64, 65, 66, 67, 68, 69, 70, 71, 72]
theorem fr_X1_dressOneMore_h106_b (F : Nat) (a0 : Int32) (a1 : Int32) (a2 : Int32) (k66 : Int32 → gM → Option gM) {M0 : gM} (hk66 : ∀ (x4 : Int32) (M : gM) (hM : ag fS_X1_dressOneMore M0 M) , Fr fS_X1_dressOneMore M0 rMV (k66 x4 M)) (k106 : Int32 → Int32 → Int32 → gM → Option gM) (hk106 : ∀ (x4 : Int32) (x5 : Int32) (x6 : Int32) (M : gM) (hM : ag fS_X1_dressOneMore M0 M) , Fr fS_X1_dressOneMore M0 rMV (k106 x4 x5 x6 M)) (x4 : Int32) (x5 : Int32) (x6 : Int32) (M : gM) (hM : ag fS_X1_dressOneMore M0 M)  : Fr fS_X1_dressOneMore M0 rMV (f_X1_dressOneMore_h106_b F a0 a1 a2 k66 k106 x4 x5 x6 M) := by
  unfold f_X1_dressOneMore_h106_b
  refine fr_ck ?_
  refine fr_ite ?_ ?_
  · exact hk66 _ _ hM
  · refine fr_ckh (fun hb15 => ?_)
    refine fr_ck ?_
    refine fr_lt (fun w16 => ?_)
    refine fr_ite ?_ ?_
    · refine fr_ckh (fun hb17 => ?_)
      refine fr_ck ?_
      refine fr_bindV (fr_sub (fr_X1_addSet _ _ _ _ _) (by decide)) hM (fun r18 hr18 => ?_)
      exact hk106 _ _ _ _ hr18
    · exact hk106 _ _ _ _ hM

theorem fr_X1_dressOneMore_h106 (F : Nat) (a0 : Int32) (a1 : Int32) (a2 : Int32) (k66 : Int32 → gM → Option gM) {M0 : gM} (hk66 : ∀ (x4 : Int32) (M : gM) (hM : ag fS_X1_dressOneMore M0 M) , Fr fS_X1_dressOneMore M0 rMV (k66 x4 M)) : ∀ (n : Nat) (x4 : Int32) (x5 : Int32) (x6 : Int32) (M : gM) (hM : ag fS_X1_dressOneMore M0 M) , Fr fS_X1_dressOneMore M0 rMV (f_X1_dressOneMore_h106 F a0 a1 a2 k66 n x4 x5 x6 M) := by
  intro n
  induction n with
  | zero =>
    intro x4 x5 x6 M hM  r hr
    have hr2 : (none : Option gM) = some r := hr
    cases hr2
  | succ n ih =>
    intro x4 x5 x6 M hM 
    exact fr_X1_dressOneMore_h106_b _ _ _ _ _ hk66 _ ih x4 x5 x6 M hM 
theorem fr_X1_dressOneMore_h66_b (F : Nat) (a0 : Int32) (a1 : Int32) (a2 : Int32)  {M0 : gM}  (k66 : Int32 → gM → Option gM) (hk66 : ∀ (x4 : Int32) (M : gM) (hM : ag fS_X1_dressOneMore M0 M) , Fr fS_X1_dressOneMore M0 rMV (k66 x4 M)) (x4 : Int32) (M : gM) (hM : ag fS_X1_dressOneMore M0 M)  : Fr fS_X1_dressOneMore M0 rMV (f_X1_dressOneMore_h66_b F a0 a1 a2  k66 x4 M) := by
  unfold f_X1_dressOneMore_h66_b
  refine fr_ite ?_ ?_
  · exact fr_some hM
  · refine fr_bind (fun r19 => ?_)
    refine fr_ite ?_ ?_
    · exact hk66 _ _ hM
    · refine fr_bind (fun r20 => ?_)
      exact fr_X1_dressOneMore_h106 _ _ _ _ _ hk66 _ _ _ _ _ hM

theorem fr_X1_dressOneMore_h66 (F : Nat) (a0 : Int32) (a1 : Int32) (a2 : Int32)  {M0 : gM}  : ∀ (n : Nat) (x4 : Int32) (M : gM) (hM : ag fS_X1_dressOneMore M0 M) , Fr fS_X1_dressOneMore M0 rMV (f_X1_dressOneMore_h66 F a0 a1 a2  n x4 M) := by
  intro n
  induction n with
  | zero =>
    intro x4 M hM  r hr
    have hr2 : (none : Option gM) = some r := hr
    cases hr2
  | succ n ih =>
    intro x4 M hM 
    exact fr_X1_dressOneMore_h66_b _ _ _ _   _ ih x4 M hM 
theorem fr_X1_dressOneMore (F : Nat) (a0 : Int32) (a1 : Int32) (a2 : Int32) (M : gM) : Fr fS_X1_dressOneMore M rMV (f_X1_dressOneMore F a0 a1 a2 M) := by
  unfold f_X1_dressOneMore
  refine fr_ite ?_ ?_
  · exact fr_some ag_rf
  · refine fr_ite ?_ ?_
    · refine fr_ckh (fun hb21 => ?_)
      refine fr_ckh (fun hb22 => ?_)
      refine fr_bindV (fr_sub (L := fS_X1_dressOneMore) (fr_X8_copyRow _ _ _ _ _ _) (fun k hk => by rcases List.mem_singleton.mp hk with rfl; exact rg_45 hb22 fS_X1_dressOneMore (by decide))) ag_rf (fun r23 hr23 => ?_)
      refine fr_ckh (fun hb24 => ?_)
      refine fr_ckh (fun hb25 => ?_)
      refine fr_bindV (fr_sub (L := fS_X1_dressOneMore) (fr_X8_copyRow _ _ _ _ _ _) (fun k hk => by rcases List.mem_singleton.mp hk with rfl; exact rg_59 hb25 fS_X1_dressOneMore (by decide))) hr23 (fun r26 hr26 => ?_)
      refine fr_ck ?_
      refine fr_ck ?_
      refine fr_ltM hr26 (by decide) (fun N27 hN27 => ?_)
      refine fr_ck ?_
      refine fr_ltM hN27 (by decide) (fun N28 hN28 => ?_)
      exact fr_X1_dressOneMore_h66 _ _ _ _ _ _ _ hN28
    · exact fr_some ag_rf

abbrev fS_X1_gather  : List Nat := [44, 46, 47, 48, 49, 50, 51, 52, 53, 54, 55, 56, 57, 58, 60, 61, 62, 63, 64, 65, 66, 67, 68, 69, 70, 71, 72]
theorem fr_X1_gather_h30_b (F : Nat) (a0 : Int32)  {M0 : gM}  (k30 : Int32 → gM → Option gM) (hk30 : ∀ (x2 : Int32) (M : gM) (hM : ag fS_X1_gather M0 M) , Fr fS_X1_gather M0 rMV (k30 x2 M)) (x2 : Int32) (M : gM) (hM : ag fS_X1_gather M0 M)  : Fr fS_X1_gather M0 rMV (f_X1_gather_h30_b F a0  k30 x2 M) := by
  unfold f_X1_gather_h30_b
  refine fr_ite ?_ ?_
  · exact fr_some hM
  · refine fr_ck ?_
    refine fr_ck ?_
    refine fr_bind (fun r5 => ?_)
    refine fr_bindV (fr_sub (fr_X1_dressOneMore _ _ _ _ _) (by decide)) hM (fun r6 hr6 => ?_)
    exact hk30 _ _ hr6

theorem fr_X1_gather_h30 (F : Nat) (a0 : Int32)  {M0 : gM}  : ∀ (n : Nat) (x2 : Int32) (M : gM) (hM : ag fS_X1_gather M0 M) , Fr fS_X1_gather M0 rMV (f_X1_gather_h30 F a0  n x2 M) := by
  intro n
  induction n with
  | zero =>
    intro x2 M hM  r hr
    have hr2 : (none : Option gM) = some r := hr
    cases hr2
  | succ n ih =>
    intro x2 M hM 
    exact fr_X1_gather_h30_b _ _   _ ih x2 M hM 
theorem fr_X1_gather_h2_b (F : Nat) (a0 : Int32)  {M0 : gM}  (k2 : Int32 → gM → Option gM) (hk2 : ∀ (x2 : Int32) (M : gM) (hM : ag fS_X1_gather M0 M) , Fr fS_X1_gather M0 rMV (k2 x2 M)) (x2 : Int32) (M : gM) (hM : ag fS_X1_gather M0 M)  : Fr fS_X1_gather M0 rMV (f_X1_gather_h2_b F a0  k2 x2 M) := by
  unfold f_X1_gather_h2_b
  refine fr_ite ?_ ?_
  · exact fr_X1_gather_h30 _ _ _ _ _ hM
  · refine fr_ck ?_
    refine fr_ltM hM (by decide) (fun N7 hN7 => ?_)
    refine fr_bindV (fr_sub (fr_X1_addSet _ _ _ _ _) (by decide)) hN7 (fun r8 hr8 => ?_)
    exact hk2 _ _ hr8

theorem fr_X1_gather_h2 (F : Nat) (a0 : Int32)  {M0 : gM}  : ∀ (n : Nat) (x2 : Int32) (M : gM) (hM : ag fS_X1_gather M0 M) , Fr fS_X1_gather M0 rMV (f_X1_gather_h2 F a0  n x2 M) := by
  intro n
  induction n with
  | zero =>
    intro x2 M hM  r hr
    have hr2 : (none : Option gM) = some r := hr
    cases hr2
  | succ n ih =>
    intro x2 M hM 
    exact fr_X1_gather_h2_b _ _   _ ih x2 M hM 
theorem fr_X1_gather (F : Nat) (a0 : Int32) (M : gM) : Fr fS_X1_gather M rMV (f_X1_gather F a0 M) := by
  unfold f_X1_gather
  exact fr_X1_gather_h2 _ _ _ _ _ ag_rf

abbrev fS_X2_build  : List Nat := [39, 40, 41, 42]
theorem fr_X2_build_h33_b (F : Nat) (k7 : Int32 → gM → Option gM) (k20 : Int32 → Int32 → gM → Option gM) {M0 : gM} (hk7 : ∀ (x1 : Int32) (M : gM) (hM : ag fS_X2_build M0 M) , Fr fS_X2_build M0 rMV (k7 x1 M)) (hk20 : ∀ (x1 : Int32) (x2 : Int32) (M : gM) (hM : ag fS_X2_build M0 M) , Fr fS_X2_build M0 rMV (k20 x1 x2 M)) (k33 : Int32 → Int32 → Int32 → gM → Option gM) (hk33 : ∀ (x1 : Int32) (x2 : Int32) (x3 : Int32) (M : gM) (hM : ag fS_X2_build M0 M) , Fr fS_X2_build M0 rMV (k33 x1 x2 x3 M)) (x1 : Int32) (x2 : Int32) (x3 : Int32) (M : gM) (hM : ag fS_X2_build M0 M)  : Fr fS_X2_build M0 rMV (f_X2_build_h33_b F k7 k20 k33 x1 x2 x3 M) := by
  unfold f_X2_build_h33_b
  refine fr_ite ?_ ?_
  · exact hk20 _ _ _ hM
  · refine fr_bind (fun r7 => ?_)
    refine fr_ite ?_ ?_
    · exact hk33 _ _ _ _ hM
    · refine fr_ite ?_ ?_
      · exact hk33 _ _ _ _ hM
      · refine fr_ck ?_
        refine fr_ltM hM (by decide) (fun N8 hN8 => ?_)
        refine fr_ck ?_
        refine fr_ltM hN8 (by decide) (fun N9 hN9 => ?_)
        refine fr_ck ?_
        refine fr_ltM hN9 (by decide) (fun N10 hN10 => ?_)
        refine fr_ltM hN10 (by decide) (fun N11 hN11 => ?_)
        exact hk33 _ _ _ _ hN11

theorem fr_X2_build_h33 (F : Nat) (k7 : Int32 → gM → Option gM) (k20 : Int32 → Int32 → gM → Option gM) {M0 : gM} (hk7 : ∀ (x1 : Int32) (M : gM) (hM : ag fS_X2_build M0 M) , Fr fS_X2_build M0 rMV (k7 x1 M)) (hk20 : ∀ (x1 : Int32) (x2 : Int32) (M : gM) (hM : ag fS_X2_build M0 M) , Fr fS_X2_build M0 rMV (k20 x1 x2 M)) : ∀ (n : Nat) (x1 : Int32) (x2 : Int32) (x3 : Int32) (M : gM) (hM : ag fS_X2_build M0 M) , Fr fS_X2_build M0 rMV (f_X2_build_h33 F k7 k20 n x1 x2 x3 M) := by
  intro n
  induction n with
  | zero =>
    intro x1 x2 x3 M hM  r hr
    have hr2 : (none : Option gM) = some r := hr
    cases hr2
  | succ n ih =>
    intro x1 x2 x3 M hM 
    exact fr_X2_build_h33_b _ _ _ hk7 hk20 _ ih x1 x2 x3 M hM 
theorem fr_X2_build_h20_b (F : Nat) (k7 : Int32 → gM → Option gM) {M0 : gM} (hk7 : ∀ (x1 : Int32) (M : gM) (hM : ag fS_X2_build M0 M) , Fr fS_X2_build M0 rMV (k7 x1 M)) (k20 : Int32 → Int32 → gM → Option gM) (hk20 : ∀ (x1 : Int32) (x2 : Int32) (M : gM) (hM : ag fS_X2_build M0 M) , Fr fS_X2_build M0 rMV (k20 x1 x2 M)) (x1 : Int32) (x2 : Int32) (M : gM) (hM : ag fS_X2_build M0 M)  : Fr fS_X2_build M0 rMV (f_X2_build_h20_b F k7 k20 x1 x2 M) := by
  unfold f_X2_build_h20_b
  refine fr_ite ?_ ?_
  · exact hk7 _ _ hM
  · exact fr_X2_build_h33 _ _ _ hk7 hk20 _ _ _ _ _ hM

theorem fr_X2_build_h20 (F : Nat) (k7 : Int32 → gM → Option gM) {M0 : gM} (hk7 : ∀ (x1 : Int32) (M : gM) (hM : ag fS_X2_build M0 M) , Fr fS_X2_build M0 rMV (k7 x1 M)) : ∀ (n : Nat) (x1 : Int32) (x2 : Int32) (M : gM) (hM : ag fS_X2_build M0 M) , Fr fS_X2_build M0 rMV (f_X2_build_h20 F k7 n x1 x2 M) := by
  intro n
  induction n with
  | zero =>
    intro x1 x2 M hM  r hr
    have hr2 : (none : Option gM) = some r := hr
    cases hr2
  | succ n ih =>
    intro x1 x2 M hM 
    exact fr_X2_build_h20_b _ _ hk7 _ ih x1 x2 M hM 
theorem fr_X2_build_h7_b (F : Nat)  {M0 : gM}  (k7 : Int32 → gM → Option gM) (hk7 : ∀ (x1 : Int32) (M : gM) (hM : ag fS_X2_build M0 M) , Fr fS_X2_build M0 rMV (k7 x1 M)) (x1 : Int32) (M : gM) (hM : ag fS_X2_build M0 M)  : Fr fS_X2_build M0 rMV (f_X2_build_h7_b F  k7 x1 M) := by
  unfold f_X2_build_h7_b
  refine fr_ite ?_ ?_
  · exact fr_some hM
  · exact fr_X2_build_h20 _ _ hk7 _ _ _ _ hM

theorem fr_X2_build_h7 (F : Nat)  {M0 : gM}  : ∀ (n : Nat) (x1 : Int32) (M : gM) (hM : ag fS_X2_build M0 M) , Fr fS_X2_build M0 rMV (f_X2_build_h7 F  n x1 M) := by
  intro n
  induction n with
  | zero =>
    intro x1 M hM  r hr
    have hr2 : (none : Option gM) = some r := hr
    cases hr2
  | succ n ih =>
    intro x1 M hM 
    exact fr_X2_build_h7_b _   _ ih x1 M hM 
theorem fr_X2_build (F : Nat) (M : gM) : Fr fS_X2_build M rMV (f_X2_build F M) := by
  unfold f_X2_build
  refine fr_ltM ag_rf (by decide) (fun N12 hN12 => ?_)
  exact fr_X2_build_h7 _ _ _ _ hN12

abbrev fS_X3_fail  : List Nat := [25]
theorem fr_X3_fail (a0 : Int32) (a1 : Int32) (M : gM) : Fr fS_X3_fail M rMV (f_X3_fail a0 a1 M) := by
  unfold f_X3_fail
  refine fr_ite ?_ ?_
  · refine fr_ltM ag_rf (by decide) (fun N3 hN3 => ?_)
    refine fr_ltM hN3 (by decide) (fun N4 hN4 => ?_)
    exact fr_some hN4
  · exact fr_some ag_rf

abbrev fS_X3_skipBlanks  : List Nat := [25]
theorem fr_X3_skipBlanks_h0_b (F : Nat)  {M0 : gM}  (k0 : gM → Option gM) (hk0 : ∀  (M : gM) (hM : ag fS_X3_skipBlanks M0 M) , Fr fS_X3_skipBlanks M0 rMV (k0  M))  (M : gM) (hM : ag fS_X3_skipBlanks M0 M)  : Fr fS_X3_skipBlanks M0 rMV (f_X3_skipBlanks_h0_b F  k0  M) := by
  unfold f_X3_skipBlanks_h0_b
  refine fr_ite ?_ ?_
  · exact fr_some hM
  · refine fr_bind (fun r3 => ?_)
    refine fr_ite ?_ ?_
    · refine fr_ltM hM (by decide) (fun N4 hN4 => ?_)
      exact hk0 _ hN4
    · exact fr_some hM

theorem fr_X3_skipBlanks_h0 (F : Nat)  {M0 : gM}  : ∀ (n : Nat)  (M : gM) (hM : ag fS_X3_skipBlanks M0 M) , Fr fS_X3_skipBlanks M0 rMV (f_X3_skipBlanks_h0 F  n  M) := by
  intro n
  induction n with
  | zero =>
    intro  M hM  r hr
    have hr2 : (none : Option gM) = some r := hr
    cases hr2
  | succ n ih =>
    intro  M hM 
    exact fr_X3_skipBlanks_h0_b _   _ ih  M hM 
theorem fr_X3_skipBlanks (F : Nat) (M : gM) : Fr fS_X3_skipBlanks M rMV (f_X3_skipBlanks F M) := by
  unfold f_X3_skipBlanks
  exact fr_X3_skipBlanks_h0 _ _ _ ag_rf

abbrev fS_X3_readNumber  : List Nat := [25]
theorem fr_X3_readNumber_b138 (F : Nat) (a0 : Int32)  {M0 : gM}  (x2 : Int32) (M : gM) (hM : ag fS_X3_readNumber M0 M)  : Fr fS_X3_readNumber M0 rMW (f_X3_readNumber_b138 F a0  x2 M) := by
  unfold f_X3_readNumber_b138
  refine fr_bindV (fr_sub (fr_X3_fail _ _ _) (by decide)) hM (fun r9 hr9 => ?_)
  first | exact fr_some hr9 | exact fr_ck (fr_some hr9)

theorem fr_X3_readNumber_b97 (F : Nat) (a0 : Int32)  {M0 : gM}  (x2 : Int32) (M : gM) (hM : ag fS_X3_readNumber M0 M)  : Fr fS_X3_readNumber M0 rMW (f_X3_readNumber_b97 F a0  x2 M) := by
  unfold f_X3_readNumber_b97
  refine fr_ite ?_ ?_
  · refine fr_bindV (fr_sub (fr_X3_fail _ _ _) (by decide)) hM (fun r10 hr10 => ?_)
    first | exact fr_some hr10 | exact fr_ck (fr_some hr10)
  · refine fr_ite ?_ ?_
    · exact fr_X3_readNumber_b138 _ _ _ _ hM
    · refine fr_ite ?_ ?_
      · first | exact fr_some hM | exact fr_ck (fr_some hM)
      · exact fr_X3_readNumber_b138 _ _ _ _ hM

theorem fr_X3_readNumber_b84 (F : Nat) (a0 : Int32) (k23 : Int32 → gM → Option (Int32 × gM)) {M0 : gM} (hk23 : ∀ (x2 : Int32) (M : gM) (hM : ag fS_X3_readNumber M0 M) , Fr fS_X3_readNumber M0 rMW (k23 x2 M)) (x2 : Int32) (M : gM) (hM : ag fS_X3_readNumber M0 M)  : Fr fS_X3_readNumber M0 rMW (f_X3_readNumber_b84 F a0 k23 x2 M) := by
  unfold f_X3_readNumber_b84
  refine fr_ltM hM (by decide) (fun N11 hN11 => ?_)
  exact hk23 _ _ hN11

theorem fr_X3_readNumber_h23_b (F : Nat) (a0 : Int32)  {M0 : gM}  (k23 : Int32 → gM → Option (Int32 × gM)) (hk23 : ∀ (x2 : Int32) (M : gM) (hM : ag fS_X3_readNumber M0 M) , Fr fS_X3_readNumber M0 rMW (k23 x2 M)) (x2 : Int32) (M : gM) (hM : ag fS_X3_readNumber M0 M)  : Fr fS_X3_readNumber M0 rMW (f_X3_readNumber_h23_b F a0  k23 x2 M) := by
  unfold f_X3_readNumber_h23_b
  refine fr_ite ?_ ?_
  · exact fr_X3_readNumber_b97 _ _ _ _ hM
  · refine fr_bind (fun r12 => ?_)
    refine fr_ite ?_ ?_
    · exact fr_X3_readNumber_b97 _ _ _ _ hM
    · refine fr_ite ?_ ?_
      · exact fr_X3_readNumber_b84 _ _ _ hk23 _ _ hM
      · refine fr_bind (fun r13 => ?_)
        refine fr_lt (fun w14 => ?_)
        exact fr_X3_readNumber_b84 _ _ _ hk23 _ _ hM

theorem fr_X3_readNumber_h23 (F : Nat) (a0 : Int32)  {M0 : gM}  : ∀ (n : Nat) (x2 : Int32) (M : gM) (hM : ag fS_X3_readNumber M0 M) , Fr fS_X3_readNumber M0 rMW (f_X3_readNumber_h23 F a0  n x2 M) := by
  intro n
  induction n with
  | zero =>
    intro x2 M hM  r hr
    have hr2 : (none : Option (Int32 × gM)) = some r := hr
    cases hr2
  | succ n ih =>
    intro x2 M hM 
    exact fr_X3_readNumber_h23_b _ _   _ ih x2 M hM 
theorem fr_X3_readNumber (F : Nat) (a0 : Int32) (M : gM) : Fr fS_X3_readNumber M rMW (f_X3_readNumber F a0 M) := by
  unfold f_X3_readNumber
  refine fr_ite ?_ ?_
  · refine fr_bindV (fr_sub (fr_X3_skipBlanks _ _) (by decide)) ag_rf (fun r15 hr15 => ?_)
    refine fr_ltM hr15 (by decide) (fun N16 hN16 => ?_)
    exact fr_X3_readNumber_h23 _ _ _ _ _ hN16
  · first | exact fr_some ag_rf | exact fr_ck (fr_some ag_rf)

abbrev fS_X3_readEnd  : List Nat := [25]
theorem fr_X3_readEnd (F : Nat) (M : gM) : Fr fS_X3_readEnd M rMV (f_X3_readEnd F M) := by
  unfold f_X3_readEnd
  refine fr_ite ?_ ?_
  · refine fr_bindV (fr_sub (fr_X3_skipBlanks _ _) (by decide)) ag_rf (fun r5 hr5 => ?_)
    refine fr_bind (fun r6 => ?_)
    refine fr_ite ?_ ?_
    · refine fr_ltM hr5 (by decide) (fun N8 hN8 => ?_)
      exact fr_some hN8
    · refine fr_bindV (fr_sub (fr_X3_fail _ _ _) (by decide)) hr5 (fun r7 hr7 => ?_)
      exact fr_some hr7
  · exact fr_some ag_rf

abbrev fS_X7_addClash (t : Nat) : List Nat := [t, rf t 6]
theorem fr_X7_addClash (t : Nat) (a0 : Int32) (a1 : Int32) (M : gM) : Fr (fS_X7_addClash t) M rMV (f_X7_addClash t a0 a1 M) := by
  unfold f_X7_addClash
  refine fr_bind (fun r6 => ?_)
  refine fr_ite ?_ ?_
  · exact fr_some ag_rf
  · refine fr_bind (fun r7 => ?_)
    refine fr_ite ?_ ?_
    · exact fr_some ag_rf
    · refine fr_ck ?_
      refine fr_ck ?_
      refine fr_ltM ag_rf (by simp) (fun N8 hN8 => ?_)
      refine fr_ck ?_
      refine fr_ck ?_
      refine fr_ltM hN8 (by simp) (fun N9 hN9 => ?_)
      refine fr_ltM hN9 (by simp) (fun N10 hN10 => ?_)
      exact fr_some hN10

abbrev fS_X3_readClash  : List Nat := [14, 25, rf 14 6]
theorem fr_X3_readClash_b75 (F : Nat)  {M0 : gM}  (x1 : Int32) (x2 : Int32) (M : gM) (hM : ag fS_X3_readClash M0 M)  : Fr fS_X3_readClash M0 rMV (f_X3_readClash_b75 F  x1 x2 M) := by
  unfold f_X3_readClash_b75
  refine fr_bindV (fr_sub (fr_X3_readEnd _ _) (by decide)) hM (fun r10 hr10 => ?_)
  refine fr_ite ?_ ?_
  · refine fr_bindV (fr_sub (fr_X7_addClash _ _ _ _) (by decide)) hr10 (fun r11 hr11 => ?_)
    exact fr_some hr11
  · exact fr_some hr10

theorem fr_X3_readClash_b66 (F : Nat)  {M0 : gM}  (x1 : Int32) (x2 : Int32) (M : gM) (hM : ag fS_X3_readClash M0 M)  : Fr fS_X3_readClash M0 rMV (f_X3_readClash_b66 F  x1 x2 M) := by
  unfold f_X3_readClash_b66
  refine fr_bindV (fr_sub (fr_X3_fail _ _ _) (by decide)) hM (fun r12 hr12 => ?_)
  exact fr_X3_readClash_b75 _ _ _ _ hr12

theorem fr_X3_readClash_b21 (F : Nat)  {M0 : gM}   (M : gM) (hM : ag fS_X3_readClash M0 M)  : Fr fS_X3_readClash M0 rMV (f_X3_readClash_b21 F   M) := by
  unfold f_X3_readClash_b21
  refine fr_bindW (fr_sub (fr_X3_readNumber _ _ _) (by decide)) hM (fun r13 hr13 => ?_)
  refine fr_lt (fun w14 => ?_)
  refine fr_bindW (fr_sub (fr_X3_readNumber _ _ _) (by decide)) hr13 (fun r15 hr15 => ?_)
  refine fr_lt (fun w16 => ?_)
  refine fr_ite ?_ ?_
  · exact fr_X3_readClash_b66 _ _ _ _ hr15
  · refine fr_bind (fun r17 => ?_)
    refine fr_ite ?_ ?_
    · exact fr_X3_readClash_b75 _ _ _ _ hr15
    · exact fr_X3_readClash_b66 _ _ _ _ hr15

theorem fr_X3_readClash (F : Nat) (M : gM) : Fr fS_X3_readClash M rMV (f_X3_readClash F M) := by
  unfold f_X3_readClash
  refine fr_ite ?_ ?_
  · exact fr_X3_readClash_b21 _ _ ag_rf
  · refine fr_bindV (fr_sub (fr_X3_fail _ _ _) (by decide)) ag_rf (fun r18 hr18 => ?_)
    exact fr_X3_readClash_b21 _ _ hr18

abbrev fS_X3_readWord  : List Nat := [25]
theorem fr_X3_readWord_h12_b (F : Nat)  {M0 : gM}  (k12 : gM → Option gM) (hk12 : ∀  (M : gM) (hM : ag fS_X3_readWord M0 M) , Fr fS_X3_readWord M0 rMV (k12  M))  (M : gM) (hM : ag fS_X3_readWord M0 M)  : Fr fS_X3_readWord M0 rMV (f_X3_readWord_h12_b F  k12  M) := by
  unfold f_X3_readWord_h12_b
  refine fr_ite ?_ ?_
  · exact fr_some hM
  · refine fr_bind (fun r5 => ?_)
    refine fr_ite ?_ ?_
    · exact fr_some hM
    · refine fr_ltM hM (by decide) (fun N6 hN6 => ?_)
      exact hk12 _ hN6

theorem fr_X3_readWord_h12 (F : Nat)  {M0 : gM}  : ∀ (n : Nat)  (M : gM) (hM : ag fS_X3_readWord M0 M) , Fr fS_X3_readWord M0 rMV (f_X3_readWord_h12 F  n  M) := by
  intro n
  induction n with
  | zero =>
    intro  M hM  r hr
    have hr2 : (none : Option gM) = some r := hr
    cases hr2
  | succ n ih =>
    intro  M hM 
    exact fr_X3_readWord_h12_b _   _ ih  M hM 
theorem fr_X3_readWord (F : Nat) (M : gM) : Fr fS_X3_readWord M rMV (f_X3_readWord F M) := by
  unfold f_X3_readWord
  refine fr_bindV (fr_sub (fr_X3_skipBlanks _ _) (by decide)) ag_rf (fun r7 hr7 => ?_)
  refine fr_ltM hr7 (by decide) (fun N8 hN8 => ?_)
  exact fr_X3_readWord_h12 _ _ _ hN8

abbrev fS_X3_readKind  : List Nat := [25]
theorem fr_X3_readKind (F : Nat) (M : gM) : Fr fS_X3_readKind M rMW (f_X3_readKind F M) := by
  unfold f_X3_readKind
  refine fr_ite ?_ ?_
  · refine fr_bindV (fr_sub (fr_X3_readWord _ _) (by decide)) ag_rf (fun r6 hr6 => ?_)
    refine fr_bind (fun r7 => ?_)
    refine fr_ite ?_ ?_
    · refine fr_bind (fun r8 => ?_)
      refine fr_ite ?_ ?_
      · refine fr_bind (fun r9 => ?_)
        refine fr_ite ?_ ?_
        · refine fr_bindV (fr_sub (fr_X3_fail _ _ _) (by decide)) hr6 (fun r10 hr10 => ?_)
          first | exact fr_some hr10 | exact fr_ck (fr_some hr10)
        · first | exact fr_some hr6 | exact fr_ck (fr_some hr6)
      · first | exact fr_some hr6 | exact fr_ck (fr_some hr6)
    · first | exact fr_some hr6 | exact fr_ck (fr_some hr6)
  · first | exact fr_some ag_rf | exact fr_ck (fr_some ag_rf)

abbrev fS_X7_addPart (t : Nat) : List Nat := [t, rf t 0, rf t 1, rf t 2, rf t 3, rf t 6]
theorem fr_X7_addPart (t : Nat) (a0 : Int32) (a1 : Int32) (a2 : Int32) (a3 : Int32) (M : gM) : Fr (fS_X7_addPart t) M rMV (f_X7_addPart t a0 a1 a2 a3 M) := by
  unfold f_X7_addPart
  refine fr_ite ?_ ?_
  · exact fr_some ag_rf
  · refine fr_ck ?_
    refine fr_ltM ag_rf (by simp) (fun N7 hN7 => ?_)
    refine fr_ck ?_
    refine fr_ltM hN7 (by simp) (fun N8 hN8 => ?_)
    refine fr_ck ?_
    refine fr_ltM hN8 (by simp) (fun N9 hN9 => ?_)
    refine fr_ck ?_
    refine fr_ltM hN9 (by simp) (fun N10 hN10 => ?_)
    refine fr_ck ?_
    refine fr_ltM hN10 (by simp) (fun N11 hN11 => ?_)
    refine fr_ltM hN11 (by simp) (fun N12 hN12 => ?_)
    exact fr_some hN12

abbrev fS_X7_setHoursOfLatest (t : Nat) : List Nat := [rf t 4, rf t 5]
theorem fr_X7_setHoursOfLatest (t : Nat) (a0 : Int32) (a1 : Int32) (M : gM) : Fr (fS_X7_setHoursOfLatest t) M rMV (f_X7_setHoursOfLatest t a0 a1 M) := by
  unfold f_X7_setHoursOfLatest
  refine fr_bind (fun r4 => ?_)
  refine fr_ite ?_ ?_
  · exact fr_some ag_rf
  · refine fr_ck ?_
    refine fr_ltM ag_rf (by simp) (fun N5 hN5 => ?_)
    refine fr_ck ?_
    refine fr_ltM hN5 (by simp) (fun N6 hN6 => ?_)
    exact fr_some hN6

abbrev fS_X3_readPart  : List Nat := [14, 25, rf 14 0, rf 14 1, rf 14 2, rf 14 3, rf 14 4, rf 14 5, rf 14 6]
theorem fr_X3_readPart_b79 (F : Nat)  {M0 : gM}  (x1 : Int32) (x2 : Int32) (x3 : Int32) (x4 : Int32) (x5 : Int32) (x6 : Int32) (M : gM) (hM : ag fS_X3_readPart M0 M)  : Fr fS_X3_readPart M0 rMV (f_X3_readPart_b79 F  x1 x2 x3 x4 x5 x6 M) := by
  unfold f_X3_readPart_b79
  refine fr_bindV (fr_sub (fr_X3_readEnd _ _) (by decide)) hM (fun r18 hr18 => ?_)
  refine fr_ite ?_ ?_
  · refine fr_bindV (fr_sub (fr_X7_addPart _ _ _ _ _ _) (by decide)) hr18 (fun r19 hr19 => ?_)
    refine fr_bindV (fr_sub (fr_X7_setHoursOfLatest _ _ _ _) (by decide)) hr19 (fun r20 hr20 => ?_)
    exact fr_some hr20
  · exact fr_some hr18

theorem fr_X3_readPart_b21 (F : Nat)  {M0 : gM}   (M : gM) (hM : ag fS_X3_readPart M0 M)  : Fr fS_X3_readPart M0 rMV (f_X3_readPart_b21 F   M) := by
  unfold f_X3_readPart_b21
  refine fr_bindW (fr_sub (fr_X3_readKind _ _) (by decide)) hM (fun r21 hr21 => ?_)
  refine fr_lt (fun w22 => ?_)
  refine fr_bindW (fr_sub (fr_X3_readNumber _ _ _) (by decide)) hr21 (fun r23 hr23 => ?_)
  refine fr_lt (fun w24 => ?_)
  refine fr_bindW (fr_sub (fr_X3_readNumber _ _ _) (by decide)) hr23 (fun r25 hr25 => ?_)
  refine fr_lt (fun w26 => ?_)
  refine fr_bindW (fr_sub (fr_X3_readNumber _ _ _) (by decide)) hr25 (fun r27 hr27 => ?_)
  refine fr_lt (fun w28 => ?_)
  refine fr_bindW (fr_sub (fr_X3_readNumber _ _ _) (by decide)) hr27 (fun r29 hr29 => ?_)
  refine fr_lt (fun w30 => ?_)
  refine fr_bindW (fr_sub (fr_X3_readNumber _ _ _) (by decide)) hr29 (fun r31 hr31 => ?_)
  refine fr_lt (fun w32 => ?_)
  refine fr_ite ?_ ?_
  · exact fr_X3_readPart_b79 _ _ _ _ _ _ _ _ hr31
  · refine fr_bindV (fr_sub (fr_X3_fail _ _ _) (by decide)) hr31 (fun r33 hr33 => ?_)
    exact fr_X3_readPart_b79 _ _ _ _ _ _ _ _ hr33

theorem fr_X3_readPart (F : Nat) (M : gM) : Fr fS_X3_readPart M rMV (f_X3_readPart F M) := by
  unfold f_X3_readPart
  refine fr_ite ?_ ?_
  · exact fr_X3_readPart_b21 _ _ ag_rf
  · refine fr_bindV (fr_sub (fr_X3_fail _ _ _) (by decide)) ag_rf (fun r34 hr34 => ?_)
    exact fr_X3_readPart_b21 _ _ hr34

abbrev fS_X7_addScene (t : Nat) : List Nat := [t, rf t 7, rf t 8, rf t 9]
theorem fr_X7_addScene (t : Nat) (a0 : Int32) (a1 : Int32) (a2 : Int32) (M : gM) : Fr (fS_X7_addScene t) M rMV (f_X7_addScene t a0 a1 a2 M) := by
  unfold f_X7_addScene
  refine fr_ite ?_ ?_
  · exact fr_some ag_rf
  · refine fr_ck ?_
    refine fr_ltM ag_rf (by simp) (fun N5 hN5 => ?_)
    refine fr_ck ?_
    refine fr_ltM hN5 (by simp) (fun N6 hN6 => ?_)
    refine fr_ck ?_
    refine fr_ltM hN6 (by simp) (fun N7 hN7 => ?_)
    refine fr_ltM hN7 (by simp) (fun N8 hN8 => ?_)
    exact fr_some hN8

abbrev fS_X3_readScene  : List Nat := [14, 25, rf 14 7, rf 14 8, rf 14 9]
theorem fr_X3_readScene_b56 (F : Nat)  {M0 : gM}  (x1 : Int32) (x2 : Int32) (x3 : Int32) (M : gM) (hM : ag fS_X3_readScene M0 M)  : Fr fS_X3_readScene M0 rMV (f_X3_readScene_b56 F  x1 x2 x3 M) := by
  unfold f_X3_readScene_b56
  refine fr_bindV (fr_sub (fr_X3_readEnd _ _) (by decide)) hM (fun r11 hr11 => ?_)
  refine fr_ite ?_ ?_
  · refine fr_bindV (fr_sub (fr_X7_addScene _ _ _ _ _) (by decide)) hr11 (fun r12 hr12 => ?_)
    exact fr_some hr12
  · exact fr_some hr11

theorem fr_X3_readScene_b21 (F : Nat)  {M0 : gM}   (M : gM) (hM : ag fS_X3_readScene M0 M)  : Fr fS_X3_readScene M0 rMV (f_X3_readScene_b21 F   M) := by
  unfold f_X3_readScene_b21
  refine fr_bindW (fr_sub (fr_X3_readNumber _ _ _) (by decide)) hM (fun r13 hr13 => ?_)
  refine fr_lt (fun w14 => ?_)
  refine fr_bindW (fr_sub (fr_X3_readNumber _ _ _) (by decide)) hr13 (fun r15 hr15 => ?_)
  refine fr_lt (fun w16 => ?_)
  refine fr_bindW (fr_sub (fr_X3_readNumber _ _ _) (by decide)) hr15 (fun r17 hr17 => ?_)
  refine fr_lt (fun w18 => ?_)
  refine fr_ite ?_ ?_
  · exact fr_X3_readScene_b56 _ _ _ _ _ hr17
  · refine fr_bindV (fr_sub (fr_X3_fail _ _ _) (by decide)) hr17 (fun r19 hr19 => ?_)
    exact fr_X3_readScene_b56 _ _ _ _ _ hr19

theorem fr_X3_readScene (F : Nat) (M : gM) : Fr fS_X3_readScene M rMV (f_X3_readScene F M) := by
  unfold f_X3_readScene
  refine fr_ite ?_ ?_
  · exact fr_X3_readScene_b21 _ _ ag_rf
  · refine fr_bindV (fr_sub (fr_X3_fail _ _ _) (by decide)) ag_rf (fun r20 hr20 => ?_)
    exact fr_X3_readScene_b21 _ _ hr20

abbrev fS_X7_clear (t : Nat) : List Nat := [t]
theorem fr_X7_clear (t : Nat) (M : gM) : Fr (fS_X7_clear t) M rMV (f_X7_clear t M) := by
  unfold f_X7_clear
  refine fr_ltM ag_rf (by simp) (fun N4 hN4 => ?_)
  refine fr_ltM hN4 (by simp) (fun N5 hN5 => ?_)
  refine fr_ltM hN5 (by simp) (fun N6 hN6 => ?_)
  exact fr_some hN6

abbrev fS_X3_readTown  : List Nat := [14, 25, rf 14 0, rf 14 1, rf 14 2, rf 14 3, rf 14 4, rf 14 5, rf 14 6, rf 14 7, rf 14 8, rf 14 9]
theorem fr_X3_readTown_h28_b (F : Nat)  {M0 : gM}  (k28 : Int32 → gM → Option (Int32 × gM)) (hk28 : ∀ (x1 : Int32) (M : gM) (hM : ag fS_X3_readTown M0 M) , Fr fS_X3_readTown M0 rMW (k28 x1 M)) (x1 : Int32) (M : gM) (hM : ag fS_X3_readTown M0 M)  : Fr fS_X3_readTown M0 rMW (f_X3_readTown_h28_b F  k28 x1 M) := by
  unfold f_X3_readTown_h28_b
  refine fr_ite ?_ ?_
  · first | exact fr_some hM | exact fr_ck (fr_some hM)
  · refine fr_ite ?_ ?_
    · first | exact fr_some hM | exact fr_ck (fr_some hM)
    · refine fr_ite ?_ ?_
      · refine fr_bindV (fr_sub (fr_X3_readWord _ _) (by decide)) hM (fun r18 hr18 => ?_)
        refine fr_bind (fun r19 => ?_)
        refine fr_ite ?_ ?_
        · refine fr_bind (fun r20 => ?_)
          refine fr_ite ?_ ?_
          · refine fr_bind (fun r21 => ?_)
            refine fr_ite ?_ ?_
            · refine fr_bindV (fr_sub (fr_X3_fail _ _ _) (by decide)) hr18 (fun r22 hr22 => ?_)
              refine fr_bindV (fr_sub (fr_X3_skipBlanks _ _) (by decide)) hr22 (fun r23 hr23 => ?_)
              exact hk28 _ _ hr23
            · refine fr_bindV (fr_sub (fr_X3_readScene _ _) (by decide)) hr18 (fun r24 hr24 => ?_)
              refine fr_bindV (fr_sub (fr_X3_skipBlanks _ _) (by decide)) hr24 (fun r25 hr25 => ?_)
              exact hk28 _ _ hr25
          · refine fr_bindV (fr_sub (fr_X3_readClash _ _) (by decide)) hr18 (fun r26 hr26 => ?_)
            refine fr_bindV (fr_sub (fr_X3_skipBlanks _ _) (by decide)) hr26 (fun r27 hr27 => ?_)
            exact hk28 _ _ hr27
        · refine fr_bindV (fr_sub (fr_X3_readPart _ _) (by decide)) hr18 (fun r28 hr28 => ?_)
          refine fr_bindV (fr_sub (fr_X3_skipBlanks _ _) (by decide)) hr28 (fun r29 hr29 => ?_)
          exact hk28 _ _ hr29
      · first | exact fr_some hM | exact fr_ck (fr_some hM)

theorem fr_X3_readTown_h28 (F : Nat)  {M0 : gM}  : ∀ (n : Nat) (x1 : Int32) (M : gM) (hM : ag fS_X3_readTown M0 M) , Fr fS_X3_readTown M0 rMW (f_X3_readTown_h28 F  n x1 M) := by
  intro n
  induction n with
  | zero =>
    intro x1 M hM  r hr
    have hr2 : (none : Option (Int32 × gM)) = some r := hr
    cases hr2
  | succ n ih =>
    intro x1 M hM 
    exact fr_X3_readTown_h28_b _   _ ih x1 M hM 
theorem fr_X3_readTown (F : Nat) (M : gM) : Fr fS_X3_readTown M rMW (f_X3_readTown F M) := by
  unfold f_X3_readTown
  refine fr_bindV (fr_sub (fr_X7_clear _ _) (by decide)) ag_rf (fun r30 hr30 => ?_)
  refine fr_ltM hr30 (by decide) (fun N31 hN31 => ?_)
  refine fr_ltM hN31 (by decide) (fun N32 hN32 => ?_)
  refine fr_ltM hN32 (by decide) (fun N33 hN33 => ?_)
  refine fr_bindV (fr_sub (fr_X3_skipBlanks _ _) (by decide)) hN33 (fun r34 hr34 => ?_)
  exact fr_X3_readTown_h28 _ _ _ _ hr34

abbrev fS_X4_add  : List Nat := [88, 89, 90]
theorem fr_X4_add (a0 : Int32) (a1 : Int32) (M : gM) : Fr fS_X4_add M rMW (f_X4_add a0 a1 M) := by
  unfold f_X4_add
  refine fr_ite ?_ ?_
  · refine fr_ck ?_
    refine fr_ltM ag_rf (by decide) (fun N4 hN4 => ?_)
    refine fr_ck ?_
    refine fr_ltM hN4 (by decide) (fun N5 hN5 => ?_)
    refine fr_ltM hN5 (by decide) (fun N6 hN6 => ?_)
    first | exact fr_some hN6 | exact fr_ck (fr_some hN6)
  · first | exact fr_some ag_rf | exact fr_ck (fr_some ag_rf)

abbrev fS_X5_beginIn (t : Nat) : List Nat := [t, rf t 2, (rf t 0), (rf t 1)]
theorem fr_X5_beginIn_h24_b (F : Nat) (t : Nat) (a0 : Nat)  {M0 : gM}  (k24 : Int32 → gM → Option gM) (hk24 : ∀ (x2 : Int32) (M : gM) (hM : ag (fS_X5_beginIn t) M0 M) , Fr (fS_X5_beginIn t) M0 rMV (k24 x2 M)) (x2 : Int32) (M : gM) (hM : ag (fS_X5_beginIn t) M0 M)  : Fr (fS_X5_beginIn t) M0 rMV (f_X5_beginIn_h24_b F t a0  k24 x2 M) := by
  unfold f_X5_beginIn_h24_b
  refine fr_ite ?_ ?_
  · refine fr_ltM hM (by simp) (fun N6 hN6 => ?_)
    refine fr_ltM hN6 (by simp) (fun N7 hN7 => ?_)
    exact fr_some hN7
  · refine fr_ck ?_
    refine fr_ltM hM (by simp) (fun N8 hN8 => ?_)
    exact hk24 _ _ hN8

theorem fr_X5_beginIn_h24 (F : Nat) (t : Nat) (a0 : Nat)  {M0 : gM}  : ∀ (n : Nat) (x2 : Int32) (M : gM) (hM : ag (fS_X5_beginIn t) M0 M) , Fr (fS_X5_beginIn t) M0 rMV (f_X5_beginIn_h24 F t a0  n x2 M) := by
  intro n
  induction n with
  | zero =>
    intro x2 M hM  r hr
    have hr2 : (none : Option gM) = some r := hr
    cases hr2
  | succ n ih =>
    intro x2 M hM 
    exact fr_X5_beginIn_h24_b _ _ _   _ ih x2 M hM 
theorem fr_X5_beginIn (F : Nat) (t : Nat) (a0 : Nat) (M : gM) : Fr (fS_X5_beginIn t) M rMV (f_X5_beginIn F t a0 M) := by
  unfold f_X5_beginIn
  refine fr_bindV (fr_sub (fr_X8_copyRow _ _ _ _ _ _) (by simp)) ag_rf (fun r9 hr9 => ?_)
  refine fr_bindV (fr_sub (fr_X8_copyRow _ _ _ _ _ _) (by simp)) hr9 (fun r10 hr10 => ?_)
  exact fr_X5_beginIn_h24 _ _ _ _ _ _ hr10

abbrev fS_X5_copyFrom (t : Nat) : List Nat := [t, (rf t 0), (rf t 1), (rf t 2)]
theorem fr_X5_copyFrom (F : Nat) (t : Nat) (a0 : Nat) (M : gM) : Fr (fS_X5_copyFrom t) M rMV (f_X5_copyFrom F t a0 M) := by
  unfold f_X5_copyFrom
  refine fr_bindV (fr_sub (fr_X8_copyRow _ _ _ _ _ _) (by simp)) ag_rf (fun r8 hr8 => ?_)
  refine fr_bindV (fr_sub (fr_X8_copyRow _ _ _ _ _ _) (by simp)) hr8 (fun r9 hr9 => ?_)
  refine fr_bindV (fr_sub (fr_X8_copyRow _ _ _ _ _ _) (by simp)) hr9 (fun r10 hr10 => ?_)
  refine fr_ltM hr10 (by simp) (fun N11 hN11 => ?_)
  refine fr_ltM hN11 (by simp) (fun N12 hN12 => ?_)
  refine fr_ltM hN12 (by simp) (fun N13 hN13 => ?_)
  refine fr_ltM hN13 (by simp) (fun N14 hN14 => ?_)
  exact fr_some hN14

abbrev fS_X5_drawOfFour (t : Nat) : List Nat := [t]
theorem fr_X5_drawOfFour (t : Nat) (M : gM) : Fr (fS_X5_drawOfFour t) M rMW (f_X5_drawOfFour t M) := by
  unfold f_X5_drawOfFour
  refine fr_ltM ag_rf (by simp) (fun N2 hN2 => ?_)
  first | exact fr_some hN2 | exact fr_ck (fr_some hN2)

abbrev fS_X5_drawPrices (t : Nat) : List Nat := [t, rf t 1]
theorem fr_X5_drawPrices_h9_b (F : Nat) (t : Nat) (a0 : Int32)  {M0 : gM}  (k9 : Int32 → Int32 → gM → Option gM) (hk9 : ∀ (x2 : Int32) (x3 : Int32) (M : gM) (hM : ag (fS_X5_drawPrices t) M0 M) , Fr (fS_X5_drawPrices t) M0 rMV (k9 x2 x3 M)) (x2 : Int32) (x3 : Int32) (M : gM) (hM : ag (fS_X5_drawPrices t) M0 M)  : Fr (fS_X5_drawPrices t) M0 rMV (f_X5_drawPrices_h9_b F t a0  k9 x2 x3 M) := by
  unfold f_X5_drawPrices_h9_b
  refine fr_ite ?_ ?_
  · exact fr_some hM
  · refine fr_bindW (fr_sub (fr_X5_drawOfFour _ _) (by simp)) hM (fun r6 hr6 => ?_)
    refine fr_lt (fun w7 => ?_)
    refine fr_ite ?_ ?_
    · refine fr_ck ?_
      refine fr_ck ?_
      refine fr_ltM hr6 (by simp) (fun N9 hN9 => ?_)
      exact hk9 _ _ _ hN9
    · refine fr_ite ?_ ?_
      · refine fr_ck ?_
        refine fr_ck ?_
        refine fr_ltM hr6 (by simp) (fun N8 hN8 => ?_)
        exact hk9 _ _ _ hN8
      · exact hk9 _ _ _ hr6

theorem fr_X5_drawPrices_h9 (F : Nat) (t : Nat) (a0 : Int32)  {M0 : gM}  : ∀ (n : Nat) (x2 : Int32) (x3 : Int32) (M : gM) (hM : ag (fS_X5_drawPrices t) M0 M) , Fr (fS_X5_drawPrices t) M0 rMV (f_X5_drawPrices_h9 F t a0  n x2 x3 M) := by
  intro n
  induction n with
  | zero =>
    intro x2 x3 M hM  r hr
    have hr2 : (none : Option gM) = some r := hr
    cases hr2
  | succ n ih =>
    intro x2 x3 M hM 
    exact fr_X5_drawPrices_h9_b _ _ _   _ ih x2 x3 M hM 
theorem fr_X5_drawPrices (F : Nat) (t : Nat) (a0 : Int32) (M : gM) : Fr (fS_X5_drawPrices t) M rMV (f_X5_drawPrices F t a0 M) := by
  unfold f_X5_drawPrices
  refine fr_lt (fun w10 => ?_)
  exact fr_X5_drawPrices_h9 _ _ _ _ _ _ _ ag_rf

abbrev fS_X5_raisePrices (a2 : Nat) : List Nat := [a2]
theorem fr_X5_raisePrices_h12_b (F : Nat) (t : Nat) (a0 : Int32) (a1 : Int32) (a2 : Nat) (na2 : Nat)  {M0 : gM}  (k12 : Int32 → Int32 → gM → Option gM) (hk12 : ∀ (x4 : Int32) (x5 : Int32) (M : gM) (hM : ag (fS_X5_raisePrices a2) M0 M) , Fr (fS_X5_raisePrices a2) M0 rMV (k12 x4 x5 M)) (x4 : Int32) (x5 : Int32) (M : gM) (hM : ag (fS_X5_raisePrices a2) M0 M)  : Fr (fS_X5_raisePrices a2) M0 rMV (f_X5_raisePrices_h12_b F t a0 a1 a2 na2  k12 x4 x5 M) := by
  unfold f_X5_raisePrices_h12_b
  refine fr_ite ?_ ?_
  · exact fr_some hM
  · refine fr_bind (fun r5 => ?_)
    refine fr_ite ?_ ?_
    · refine fr_ck ?_
      refine fr_ck ?_
      refine fr_ltM hM (by simp) (fun N6 hN6 => ?_)
      exact hk12 _ _ _ hN6
    · refine fr_ck ?_
      refine fr_ck ?_
      refine fr_ltM hM (by simp) (fun N7 hN7 => ?_)
      exact hk12 _ _ _ hN7

theorem fr_X5_raisePrices_h12 (F : Nat) (t : Nat) (a0 : Int32) (a1 : Int32) (a2 : Nat) (na2 : Nat)  {M0 : gM}  : ∀ (n : Nat) (x4 : Int32) (x5 : Int32) (M : gM) (hM : ag (fS_X5_raisePrices a2) M0 M) , Fr (fS_X5_raisePrices a2) M0 rMV (f_X5_raisePrices_h12 F t a0 a1 a2 na2  n x4 x5 M) := by
  intro n
  induction n with
  | zero =>
    intro x4 x5 M hM  r hr
    have hr2 : (none : Option gM) = some r := hr
    cases hr2
  | succ n ih =>
    intro x4 x5 M hM 
    exact fr_X5_raisePrices_h12_b _ _ _ _ _ _   _ ih x4 x5 M hM 
theorem fr_X5_raisePrices (F : Nat) (t : Nat) (a0 : Int32) (a1 : Int32) (a2 : Nat) (na2 : Nat) (M : gM) : Fr (fS_X5_raisePrices a2) M rMV (f_X5_raisePrices F t a0 a1 a2 na2 M) := by
  unfold f_X5_raisePrices
  refine fr_lt (fun w8 => ?_)
  exact fr_X5_raisePrices_h12 _ _ _ _ _ _ _ _ _ _ ag_rf

abbrev fS_X5_wearHour (t : Nat) : List Nat := [rf t 2]
theorem fr_X5_wearHour_h2_b (F : Nat) (t : Nat) (a0 : Int32)  {M0 : gM}  (k2 : Int32 → gM → Option gM) (hk2 : ∀ (x2 : Int32) (M : gM) (hM : ag (fS_X5_wearHour t) M0 M) , Fr (fS_X5_wearHour t) M0 rMV (k2 x2 M)) (x2 : Int32) (M : gM) (hM : ag (fS_X5_wearHour t) M0 M)  : Fr (fS_X5_wearHour t) M0 rMV (f_X5_wearHour_h2_b F t a0  k2 x2 M) := by
  unfold f_X5_wearHour_h2_b
  refine fr_ite ?_ ?_
  · exact fr_some hM
  · refine fr_bind (fun r3 => ?_)
    refine fr_ite ?_ ?_
    · exact hk2 _ _ hM
    · refine fr_ck ?_
      refine fr_ck ?_
      refine fr_ltM hM (by simp) (fun N4 hN4 => ?_)
      exact hk2 _ _ hN4

theorem fr_X5_wearHour_h2 (F : Nat) (t : Nat) (a0 : Int32)  {M0 : gM}  : ∀ (n : Nat) (x2 : Int32) (M : gM) (hM : ag (fS_X5_wearHour t) M0 M) , Fr (fS_X5_wearHour t) M0 rMV (f_X5_wearHour_h2 F t a0  n x2 M) := by
  intro n
  induction n with
  | zero =>
    intro x2 M hM  r hr
    have hr2 : (none : Option gM) = some r := hr
    cases hr2
  | succ n ih =>
    intro x2 M hM 
    exact fr_X5_wearHour_h2_b _ _ _   _ ih x2 M hM 
theorem fr_X5_wearHour (F : Nat) (t : Nat) (a0 : Int32) (M : gM) : Fr (fS_X5_wearHour t) M rMV (f_X5_wearHour F t a0 M) := by
  unfold f_X5_wearHour
  exact fr_X5_wearHour_h2 _ _ _ _ _ _ ag_rf

abbrev fS_X5_wearOut (t : Nat) : List Nat := [rf t 0, rf t 2]
theorem fr_X5_wearOut_h8_b (F : Nat) (t : Nat) (k2 : Int32 → gM → Option gM) {M0 : gM} (hk2 : ∀ (x1 : Int32) (M : gM) (hM : ag (fS_X5_wearOut t) M0 M) , Fr (fS_X5_wearOut t) M0 rMV (k2 x1 M)) (k8 : Int32 → gM → Option gM) (hk8 : ∀ (x1 : Int32) (M : gM) (hM : ag (fS_X5_wearOut t) M0 M) , Fr (fS_X5_wearOut t) M0 rMV (k8 x1 M)) (x1 : Int32) (M : gM) (hM : ag (fS_X5_wearOut t) M0 M)  : Fr (fS_X5_wearOut t) M0 rMV (f_X5_wearOut_h8_b F t k2 k8 x1 M) := by
  unfold f_X5_wearOut_h8_b
  refine fr_ck ?_
  refine fr_ite ?_ ?_
  · exact hk2 _ _ hM
  · refine fr_ck ?_
    refine fr_ck ?_
    refine fr_ltM hM (by simp) (fun N3 hN3 => ?_)
    refine fr_ck ?_
    refine fr_ck ?_
    refine fr_ltM hN3 (by simp) (fun N4 hN4 => ?_)
    exact hk8 _ _ hN4

theorem fr_X5_wearOut_h8 (F : Nat) (t : Nat) (k2 : Int32 → gM → Option gM) {M0 : gM} (hk2 : ∀ (x1 : Int32) (M : gM) (hM : ag (fS_X5_wearOut t) M0 M) , Fr (fS_X5_wearOut t) M0 rMV (k2 x1 M)) : ∀ (n : Nat) (x1 : Int32) (M : gM) (hM : ag (fS_X5_wearOut t) M0 M) , Fr (fS_X5_wearOut t) M0 rMV (f_X5_wearOut_h8 F t k2 n x1 M) := by
  intro n
  induction n with
  | zero =>
    intro x1 M hM  r hr
    have hr2 : (none : Option gM) = some r := hr
    cases hr2
  | succ n ih =>
    intro x1 M hM 
    exact fr_X5_wearOut_h8_b _ _ _ hk2 _ ih x1 M hM 
theorem fr_X5_wearOut_h2_b (F : Nat) (t : Nat)  {M0 : gM}  (k2 : Int32 → gM → Option gM) (hk2 : ∀ (x1 : Int32) (M : gM) (hM : ag (fS_X5_wearOut t) M0 M) , Fr (fS_X5_wearOut t) M0 rMV (k2 x1 M)) (x1 : Int32) (M : gM) (hM : ag (fS_X5_wearOut t) M0 M)  : Fr (fS_X5_wearOut t) M0 rMV (f_X5_wearOut_h2_b F t  k2 x1 M) := by
  unfold f_X5_wearOut_h2_b
  refine fr_ite ?_ ?_
  · exact fr_some hM
  · exact fr_X5_wearOut_h8 _ _ _ hk2 _ _ _ hM

theorem fr_X5_wearOut_h2 (F : Nat) (t : Nat)  {M0 : gM}  : ∀ (n : Nat) (x1 : Int32) (M : gM) (hM : ag (fS_X5_wearOut t) M0 M) , Fr (fS_X5_wearOut t) M0 rMV (f_X5_wearOut_h2 F t  n x1 M) := by
  intro n
  induction n with
  | zero =>
    intro x1 M hM  r hr
    have hr2 : (none : Option gM) = some r := hr
    cases hr2
  | succ n ih =>
    intro x1 M hM 
    exact fr_X5_wearOut_h2_b _ _   _ ih x1 M hM 
theorem fr_X5_wearOut (F : Nat) (t : Nat) (M : gM) : Fr (fS_X5_wearOut t) M rMV (f_X5_wearOut F t M) := by
  unfold f_X5_wearOut
  exact fr_X5_wearOut_h2 _ _ _ _ _ ag_rf

abbrev fS_X6_add  : List Nat := [1, 2]
theorem fr_X6_add (a0 : Int32) (M : gM) : Fr fS_X6_add M rMV (f_X6_add a0 M) := by
  unfold f_X6_add
  refine fr_ite ?_ ?_
  · exact fr_some ag_rf
  · refine fr_ck ?_
    refine fr_ltM ag_rf (by decide) (fun N3 hN3 => ?_)
    refine fr_ltM hN3 (by decide) (fun N4 hN4 => ?_)
    exact fr_some hN4

abbrev fS_X7_copyFrom (t : Nat) : List Nat := [t, (rf t 0), (rf t 1), (rf t 2), (rf t 3), (rf t 4), (rf t 5), (rf t 6), (rf t 7), (rf t 8), (rf t 9)]
theorem fr_X7_copyFrom (F : Nat) (t : Nat) (a0 : Nat) (M : gM) : Fr (fS_X7_copyFrom t) M rMV (f_X7_copyFrom F t a0 M) := by
  unfold f_X7_copyFrom
  refine fr_bindV (fr_sub (fr_X8_copyRow _ _ _ _ _ _) (by simp)) ag_rf (fun r14 hr14 => ?_)
  refine fr_bindV (fr_sub (fr_X8_copyRow _ _ _ _ _ _) (by simp)) hr14 (fun r15 hr15 => ?_)
  refine fr_bindV (fr_sub (fr_X8_copyRow _ _ _ _ _ _) (by simp)) hr15 (fun r16 hr16 => ?_)
  refine fr_bindV (fr_sub (fr_X8_copyRow _ _ _ _ _ _) (by simp)) hr16 (fun r17 hr17 => ?_)
  refine fr_bindV (fr_sub (fr_X8_copyRow _ _ _ _ _ _) (by simp)) hr17 (fun r18 hr18 => ?_)
  refine fr_bindV (fr_sub (fr_X8_copyRow _ _ _ _ _ _) (by simp)) hr18 (fun r19 hr19 => ?_)
  refine fr_bindV (fr_sub (fr_X8_copyRow _ _ _ _ _ _) (by simp)) hr19 (fun r20 hr20 => ?_)
  refine fr_bindV (fr_sub (fr_X8_copyRow _ _ _ _ _ _) (by simp)) hr20 (fun r21 hr21 => ?_)
  refine fr_bindV (fr_sub (fr_X8_copyRow _ _ _ _ _ _) (by simp)) hr21 (fun r22 hr22 => ?_)
  refine fr_bindV (fr_sub (fr_X8_copyRow _ _ _ _ _ _) (by simp)) hr22 (fun r23 hr23 => ?_)
  refine fr_ltM hr23 (by simp) (fun N24 hN24 => ?_)
  refine fr_ltM hN24 (by simp) (fun N25 hN25 => ?_)
  refine fr_ltM hN25 (by simp) (fun N26 hN26 => ?_)
  exact fr_some hN26

abbrev fS_X8_dressBest  : List Nat := [43, 44, 46, 47, 48, 49, 50, 51, 52, 53, 54, 55, 56, 57, 58, 60, 61, 62, 63, 64, 65, 66, 67, 68, 69, 70, 71, 72, 74, 75, 76, 77, 78, 79, 80, 81, 82, 83, 84, 85, 86, 87]
theorem fr_X8_dressBest (F : Nat) (a0 : Int32) (M : gM) : Fr fS_X8_dressBest M rMV (f_X8_dressBest F a0 M) := by
  unfold f_X8_dressBest
  refine fr_bindV (fr_sub (fr_X1_gather _ _ _) (by decide)) ag_rf (fun r3 hr3 => ?_)
  refine fr_bindV (fr_sub (fr_X1_choose _ _ _ _ _) (by decide)) hr3 (fun r4 hr4 => ?_)
  exact fr_some hr4

abbrev fS_X8_passDay  : List Nat := [26, 43, 44, 46, 47, 48, 49, 50, 51, 52, 53, 54, 55, 56, 57, 58, 60, 61, 62, 63, 64, 65, 66, 67, 68, 69, 70, 71, 72, 74, 75, 76, 77, 78, 79, 80, 81, 82, 83, 84, 85, 86, 87, rf 26 0, rf 26 2]
theorem fr_X8_passDay_h33_b (F : Nat)  {M0 : gM}  (k33 : Int32 → gM → Option (Int32 × gM)) (hk33 : ∀ (x1 : Int32) (M : gM) (hM : ag fS_X8_passDay M0 M) , Fr fS_X8_passDay M0 rMW (k33 x1 M)) (x1 : Int32) (M : gM) (hM : ag fS_X8_passDay M0 M)  : Fr fS_X8_passDay M0 rMW (f_X8_passDay_h33_b F  k33 x1 M) := by
  unfold f_X8_passDay_h33_b
  refine fr_ite ?_ ?_
  · refine fr_bindV (fr_sub (fr_X5_wearOut _ _ _) (by decide)) hM (fun r6 hr6 => ?_)
    refine fr_ltM hr6 (by decide) (fun N7 hN7 => ?_)
    first | exact fr_some hN7 | exact fr_ck (fr_some hN7)
  · refine fr_ck ?_
    refine fr_bindV (fr_sub (fr_X5_wearHour _ _ _ _) (by decide)) hM (fun r8 hr8 => ?_)
    exact hk33 _ _ hr8

theorem fr_X8_passDay_h33 (F : Nat)  {M0 : gM}  : ∀ (n : Nat) (x1 : Int32) (M : gM) (hM : ag fS_X8_passDay M0 M) , Fr fS_X8_passDay M0 rMW (f_X8_passDay_h33 F  n x1 M) := by
  intro n
  induction n with
  | zero =>
    intro x1 M hM  r hr
    have hr2 : (none : Option (Int32 × gM)) = some r := hr
    cases hr2
  | succ n ih =>
    intro x1 M hM 
    exact fr_X8_passDay_h33_b _   _ ih x1 M hM 
theorem fr_X8_passDay (F : Nat) (M : gM) : Fr fS_X8_passDay M rMW (f_X8_passDay F M) := by
  unfold f_X8_passDay
  refine fr_bindV (fr_sub (fr_X8_dressBest _ _ _) (by decide)) ag_rf (fun r9 hr9 => ?_)
  refine fr_ltM hr9 (by decide) (fun N10 hN10 => ?_)
  refine fr_ite ?_ ?_
  · first | exact fr_some hN10 | exact fr_ck (fr_some hN10)
  · exact fr_X8_passDay_h33 _ _ _ _ hN10

abbrev fS_X8_day  : List Nat := [26, 43, 44, 46, 47, 48, 49, 50, 51, 52, 53, 54, 55, 56, 57, 58, 60, 61, 62, 63, 64, 65, 66, 67, 68, 69, 70, 71, 72, 74, 75, 76, 77, 78, 79, 80, 81, 82, 83, 84, 85, 86, 87, rf 26 0, rf 26 2]
theorem fr_X8_day_h18_b (F : Nat) (a0 : Int32)  {M0 : gM}  (k18 : Int32 → Int32 → gM → Option (Int32 × gM)) (hk18 : ∀ (x2 : Int32) (x3 : Int32) (M : gM) (hM : ag fS_X8_day M0 M) , Fr fS_X8_day M0 rMW (k18 x2 x3 M)) (x2 : Int32) (x3 : Int32) (M : gM) (hM : ag fS_X8_day M0 M)  : Fr fS_X8_day M0 rMW (f_X8_day_h18_b F a0  k18 x2 x3 M) := by
  unfold f_X8_day_h18_b
  refine fr_ite ?_ ?_
  · first | exact fr_some hM | exact fr_ck (fr_some hM)
  · refine fr_bindW (fr_sub (fr_X8_passDay _ _) (by decide)) hM (fun r3 hr3 => ?_)
    refine fr_lt (fun w4 => ?_)
    exact hk18 _ _ _ hr3

theorem fr_X8_day_h18 (F : Nat) (a0 : Int32)  {M0 : gM}  : ∀ (n : Nat) (x2 : Int32) (x3 : Int32) (M : gM) (hM : ag fS_X8_day M0 M) , Fr fS_X8_day M0 rMW (f_X8_day_h18 F a0  n x2 x3 M) := by
  intro n
  induction n with
  | zero =>
    intro x2 x3 M hM  r hr
    have hr2 : (none : Option (Int32 × gM)) = some r := hr
    cases hr2
  | succ n ih =>
    intro x2 x3 M hM 
    exact fr_X8_day_h18_b _ _   _ ih x2 x3 M hM 
theorem fr_X8_day (F : Nat) (a0 : Int32) (M : gM) : Fr fS_X8_day M rMW (f_X8_day F a0 M) := by
  unfold f_X8_day
  refine fr_ite ?_ ?_
  · first | exact fr_some ag_rf | exact fr_ck (fr_some ag_rf)
  · refine fr_ite ?_ ?_
    · exact fr_X8_day_h18 _ _ _ _ _ _ ag_rf
    · first | exact fr_some ag_rf | exact fr_ck (fr_some ag_rf)

abbrev fS_X8_dressing  : List Nat := [43, 44, 46, 47, 48, 49, 50, 51, 52, 53, 54, 55, 56, 57, 58, 60, 61, 62, 63, 64, 65, 66, 67, 68, 69, 70, 71, 72, 74, 75, 76, 77, 78, 79, 80, 81, 82, 83, 84, 85, 86, 87]
theorem fr_X8_dressing_b19 (F : Nat) (a0 : Int32)  {M0 : gM}   (M : gM) (hM : ag fS_X8_dressing M0 M)  : Fr fS_X8_dressing M0 rMW (f_X8_dressing_b19 F a0   M) := by
  unfold f_X8_dressing_b19
  refine fr_bindV (fr_sub (fr_X8_dressBest _ _ _) (by decide)) hM (fun r4 hr4 => ?_)
  refine fr_ite ?_ ?_
  · first | exact fr_some hr4 | exact fr_ck (fr_some hr4)
  · refine fr_ite ?_ ?_
    · first | exact fr_some hr4 | exact fr_ck (fr_some hr4)
    · refine fr_ck ?_
      refine fr_bind (fun r5 => ?_)
      first | exact fr_some hr4 | exact fr_ck (fr_some hr4)

theorem fr_X8_dressing (F : Nat) (a0 : Int32) (M : gM) : Fr fS_X8_dressing M rMW (f_X8_dressing F a0 M) := by
  unfold f_X8_dressing
  refine fr_ite ?_ ?_
  · exact fr_X8_dressing_b19 _ _ _ ag_rf
  · refine fr_bind (fun r6 => ?_)
    refine fr_ite ?_ ?_
    · first | exact fr_some ag_rf | exact fr_ck (fr_some ag_rf)
    · exact fr_X8_dressing_b19 _ _ _ ag_rf

abbrev fS_X8_drift  : List Nat := [26, 43, 44, 46, 47, 48, 49, 50, 51, 52, 53, 54, 55, 56, 57, 58, 60, 61, 62, 63, 64, 65, 66, 67, 68, 69, 70, 71, 72, 74, 75, 76, 77, 78, 79, 80, 81, 82, 83, 84, 85, 86, 87, rf 26 0, rf 26 1, rf 26 2]
theorem fr_X8_drift_h18_b (F : Nat) (a0 : Int32)  {M0 : gM}  (k18 : Int32 → Int32 → gM → Option (Int32 × gM)) (hk18 : ∀ (x2 : Int32) (x3 : Int32) (M : gM) (hM : ag fS_X8_drift M0 M) , Fr fS_X8_drift M0 rMW (k18 x2 x3 M)) (x2 : Int32) (x3 : Int32) (M : gM) (hM : ag fS_X8_drift M0 M)  : Fr fS_X8_drift M0 rMW (f_X8_drift_h18_b F a0  k18 x2 x3 M) := by
  unfold f_X8_drift_h18_b
  refine fr_ite ?_ ?_
  · first | exact fr_some hM | exact fr_ck (fr_some hM)
  · refine fr_bindV (fr_sub (fr_X5_drawPrices _ _ _ _) (by decide)) hM (fun r4 hr4 => ?_)
    refine fr_bindW (fr_sub (fr_X8_passDay _ _) (by decide)) hr4 (fun r5 hr5 => ?_)
    refine fr_lt (fun w6 => ?_)
    exact hk18 _ _ _ hr5

theorem fr_X8_drift_h18 (F : Nat) (a0 : Int32)  {M0 : gM}  : ∀ (n : Nat) (x2 : Int32) (x3 : Int32) (M : gM) (hM : ag fS_X8_drift M0 M) , Fr fS_X8_drift M0 rMW (f_X8_drift_h18 F a0  n x2 x3 M) := by
  intro n
  induction n with
  | zero =>
    intro x2 x3 M hM  r hr
    have hr2 : (none : Option (Int32 × gM)) = some r := hr
    cases hr2
  | succ n ih =>
    intro x2 x3 M hM 
    exact fr_X8_drift_h18_b _ _   _ ih x2 x3 M hM 
theorem fr_X8_drift (F : Nat) (a0 : Int32) (M : gM) : Fr fS_X8_drift M rMW (f_X8_drift F a0 M) := by
  unfold f_X8_drift
  refine fr_ite ?_ ?_
  · first | exact fr_some ag_rf | exact fr_ck (fr_some ag_rf)
  · refine fr_ite ?_ ?_
    · exact fr_X8_drift_h18 _ _ _ _ _ _ ag_rf
    · first | exact fr_some ag_rf | exact fr_ck (fr_some ag_rf)

abbrev fS_X8_feed  : List Nat := [1, 2]
theorem fr_X8_feed_h37_b (F : Nat) (a0 : Int32) (a1 : Int64)  {M0 : gM}  (k37 : Int32 → gM → Option (Int32 × gM)) (hk37 : ∀ (x4 : Int32) (M : gM) (hM : ag fS_X8_feed M0 M) , Fr fS_X8_feed M0 rMW (k37 x4 M)) (x4 : Int32) (M : gM) (hM : ag fS_X8_feed M0 M)  : Fr fS_X8_feed M0 rMW (f_X8_feed_h37_b F a0 a1  k37 x4 M) := by
  unfold f_X8_feed_h37_b
  refine fr_ite ?_ ?_
  · first | exact fr_some hM | exact fr_ck (fr_some hM)
  · refine fr_bindV (fr_sub (fr_X6_add _ _) (by decide)) hM (fun r3 hr3 => ?_)
    exact hk37 _ _ hr3

theorem fr_X8_feed_h37 (F : Nat) (a0 : Int32) (a1 : Int64)  {M0 : gM}  : ∀ (n : Nat) (x4 : Int32) (M : gM) (hM : ag fS_X8_feed M0 M) , Fr fS_X8_feed M0 rMW (f_X8_feed_h37 F a0 a1  n x4 M) := by
  intro n
  induction n with
  | zero =>
    intro x4 M hM  r hr
    have hr2 : (none : Option (Int32 × gM)) = some r := hr
    cases hr2
  | succ n ih =>
    intro x4 M hM 
    exact fr_X8_feed_h37_b _ _ _   _ ih x4 M hM 
theorem fr_X8_feed (F : Nat) (a0 : Int32) (a1 : Int64) (M : gM) : Fr fS_X8_feed M rMW (f_X8_feed F a0 a1 M) := by
  unfold f_X8_feed
  refine fr_ite ?_ ?_
  · first | exact fr_some ag_rf | exact fr_ck (fr_some ag_rf)
  · refine fr_ite ?_ ?_
    · refine fr_ite ?_ ?_
      · refine fr_lt (fun w4 => ?_)
        exact fr_X8_feed_h37 _ _ _ _ _ _ ag_rf
      · first | exact fr_some ag_rf | exact fr_ck (fr_some ag_rf)
    · first | exact fr_some ag_rf | exact fr_ck (fr_some ag_rf)

abbrev fS_X8_goBack  : List Nat := [26, (rf 26 0), (rf 26 1), (rf 26 2)]
theorem fr_X8_goBack (F : Nat) (a0 : Int32) (M : gM) : Fr fS_X8_goBack M rMW (f_X8_goBack F a0 M) := by
  unfold f_X8_goBack
  refine fr_ite ?_ ?_
  · first | exact fr_some ag_rf | exact fr_ck (fr_some ag_rf)
  · refine fr_ite ?_ ?_
    · refine fr_ck ?_
      refine fr_ite ?_ ?_
      · first | exact fr_some ag_rf | exact fr_ck (fr_some ag_rf)
      · refine fr_bind (fun r4 => ?_)
        refine fr_ckh (fun hk5 => ?_)
        refine fr_bindV (fr_sub (fr_X5_copyFrom _ _ _ _) (by decide)) ag_rf (fun r6 hr6 => ?_)
        first | exact fr_some hr6 | exact fr_ck (fr_some hr6)
    · first | exact fr_some ag_rf | exact fr_ck (fr_some ag_rf)

abbrev fS_X8_law  : List Nat := [26]
theorem fr_X8_law (a0 : Int32) (M : gM) : Fr fS_X8_law M rMW (f_X8_law a0 M) := by
  unfold f_X8_law
  refine fr_ite ?_ ?_
  · first | exact fr_some ag_rf | exact fr_ck (fr_some ag_rf)
  · refine fr_ite ?_ ?_
    · refine fr_lt (fun w3 => ?_)
      refine fr_ltM ag_rf (by decide) (fun N4 hN4 => ?_)
      first | exact fr_some hN4 | exact fr_ck (fr_some hN4)
    · first | exact fr_some ag_rf | exact fr_ck (fr_some ag_rf)

abbrev fS_X8_price  : List Nat := [28]
theorem fr_X8_price (a0 : Int32) (a1 : Int32) (M : gM) : Fr fS_X8_price M rMW (f_X8_price a0 a1 M) := by
  unfold f_X8_price
  refine fr_bind (fun r4 => ?_)
  refine fr_ite ?_ ?_
  · first | exact fr_some ag_rf | exact fr_ck (fr_some ag_rf)
  · refine fr_ite ?_ ?_
    · first | exact fr_some ag_rf | exact fr_ck (fr_some ag_rf)
    · refine fr_ite ?_ ?_
      · refine fr_ck ?_
        refine fr_lt (fun w5 => ?_)
        refine fr_ck ?_
        refine fr_ltM ag_rf (by decide) (fun N6 hN6 => ?_)
        first | exact fr_some hN6 | exact fr_ck (fr_some hN6)
      · first | exact fr_some ag_rf | exact fr_ck (fr_some ag_rf)

abbrev fS_X8_raise  : List Nat := [43, 44, 46, 47, 48, 49, 50, 51, 52, 53, 54, 55, 56, 57, 58, 60, 61, 62, 63, 64, 65, 66, 67, 68, 69, 70, 71, 72, 74, 75, 76, 77, 78, 79, 80, 81, 82, 83, 84, 85, 86, 87, 94]
theorem fr_X8_raise_h45_b (F : Nat) (a0 : Int32) (a1 : Int32)  {M0 : gM}  (k45 : Int32 → Int32 → Int32 → Int32 → gM → Option (Int32 × gM)) (hk45 : ∀ (x3 : Int32) (x4 : Int32) (x5 : Int32) (x6 : Int32) (M : gM) (hM : ag fS_X8_raise M0 M) , Fr fS_X8_raise M0 rMW (k45 x3 x4 x5 x6 M)) (x3 : Int32) (x4 : Int32) (x5 : Int32) (x6 : Int32) (M : gM) (hM : ag fS_X8_raise M0 M)  : Fr fS_X8_raise M0 rMW (f_X8_raise_h45_b F a0 a1  k45 x3 x4 x5 x6 M) := by
  unfold f_X8_raise_h45_b
  refine fr_ite ?_ ?_
  · refine fr_ite ?_ ?_
    · first | exact fr_some hM | exact fr_ck (fr_some hM)
    · first | exact fr_some hM | exact fr_ck (fr_some hM)
  · refine fr_bindV (fr_sub (fr_X5_raisePrices _ _ _ _ _ _ _) (by decide)) hM (fun r7 hr7 => ?_)
    refine fr_bindV (fr_sub (fr_X1_choose _ _ _ _ _) (by decide)) hr7 (fun r8 hr8 => ?_)
    refine fr_bind (fun r9 => ?_)
    refine fr_ite ?_ ?_
    · exact hk45 _ _ _ _ _ hr8
    · exact hk45 _ _ _ _ _ hr8

theorem fr_X8_raise_h45 (F : Nat) (a0 : Int32) (a1 : Int32)  {M0 : gM}  : ∀ (n : Nat) (x3 : Int32) (x4 : Int32) (x5 : Int32) (x6 : Int32) (M : gM) (hM : ag fS_X8_raise M0 M) , Fr fS_X8_raise M0 rMW (f_X8_raise_h45 F a0 a1  n x3 x4 x5 x6 M) := by
  intro n
  induction n with
  | zero =>
    intro x3 x4 x5 x6 M hM  r hr
    have hr2 : (none : Option (Int32 × gM)) = some r := hr
    cases hr2
  | succ n ih =>
    intro x3 x4 x5 x6 M hM 
    exact fr_X8_raise_h45_b _ _ _   _ ih x3 x4 x5 x6 M hM 
theorem fr_X8_raise (F : Nat) (a0 : Int32) (a1 : Int32) (M : gM) : Fr fS_X8_raise M rMW (f_X8_raise F a0 a1 M) := by
  unfold f_X8_raise
  refine fr_bind (fun r10 => ?_)
  refine fr_ite ?_ ?_
  · first | exact fr_some ag_rf | exact fr_ck (fr_some ag_rf)
  · refine fr_ite ?_ ?_
    · first | exact fr_some ag_rf | exact fr_ck (fr_some ag_rf)
    · refine fr_ite ?_ ?_
      · refine fr_bind (fun r11 => ?_)
        refine fr_bindV (fr_sub (fr_X1_gather _ _ _) (by decide)) ag_rf (fun r12 hr12 => ?_)
        exact fr_X8_raise_h45 _ _ _ _ _ _ _ _ _ hr12
      · first | exact fr_some ag_rf | exact fr_ck (fr_some ag_rf)

abbrev fS_X8_rent  : List Nat := [43, 44, 46, 47, 48, 49, 50, 51, 52, 53, 54, 55, 56, 57, 58, 60, 61, 62, 63, 64, 65, 66, 67, 68, 69, 70, 71, 72, 74, 75, 76, 77, 78, 79, 80, 81, 82, 83, 84, 85, 86, 87]
theorem fr_X8_rent (F : Nat) (a0 : Int32) (M : gM) : Fr fS_X8_rent M rMW (f_X8_rent F a0 M) := by
  unfold f_X8_rent
  refine fr_bind (fun r5 => ?_)
  refine fr_ite ?_ ?_
  · first | exact fr_some ag_rf | exact fr_ck (fr_some ag_rf)
  · refine fr_bindV (fr_sub (fr_X8_dressBest _ _ _) (by decide)) ag_rf (fun r6 hr6 => ?_)
    refine fr_bind (fun r7 => ?_)
    refine fr_bind (fun r8 => ?_)
    first | exact fr_some hr6 | exact fr_ck (fr_some hr6)

abbrev fS_X8_see  : List Nat := [88, 89, 90]
theorem fr_X8_see (a0 : Int32) (a1 : Int32) (M : gM) : Fr fS_X8_see M rMW (f_X8_see a0 a1 M) := by
  unfold f_X8_see
  refine fr_bind (fun r3 => ?_)
  refine fr_ite ?_ ?_
  · first | exact fr_some ag_rf | exact fr_ck (fr_some ag_rf)
  · refine fr_ite ?_ ?_
    · first | exact fr_some ag_rf | exact fr_ck (fr_some ag_rf)
    · refine fr_ite ?_ ?_
      · refine fr_bindW (fr_sub (fr_X4_add _ _ _) (by decide)) ag_rf (fun r4 hr4 => ?_)
        refine fr_ite ?_ ?_
        · first | exact fr_some hr4 | exact fr_ck (fr_some hr4)
        · first | exact fr_some hr4 | exact fr_ck (fr_some hr4)
      · first | exact fr_some ag_rf | exact fr_ck (fr_some ag_rf)

abbrev fS_X8_seed  : List Nat := [26]
theorem fr_X8_seed (a0 : Int32) (M : gM) : Fr fS_X8_seed M rMW (f_X8_seed a0 M) := by
  unfold f_X8_seed
  refine fr_ite ?_ ?_
  · refine fr_lt (fun w3 => ?_)
    refine fr_ltM ag_rf (by decide) (fun N4 hN4 => ?_)
    first | exact fr_some hN4 | exact fr_ck (fr_some hN4)
  · first | exact fr_some ag_rf | exact fr_ck (fr_some ag_rf)

abbrev fS_X8_tear  : List Nat := [88, 91]
theorem fr_X8_tear  (M : gM) : Fr fS_X8_tear M rMW (f_X8_tear  M) := by
  unfold f_X8_tear
  refine fr_lt (fun w4 => ?_)
  refine fr_ltM ag_rf (by decide) (fun N5 hN5 => ?_)
  refine fr_ltM hN5 (by decide) (fun N6 hN6 => ?_)
  first | exact fr_some hN6 | exact fr_ck (fr_some hN6)

abbrev fS_X8_town  : List Nat := [0, 1, 3, 14, 25, 26, 38, 39, 40, 41, 42, 88, 91, rf 14 0, rf 14 1, rf 14 2, rf 14 3, rf 14 4, rf 14 5, rf 14 6, rf 14 7, rf 14 8, rf 14 9, rf 26 2, (rf 3 0), (rf 3 1), (rf 3 2), (rf 3 3), (rf 3 4), (rf 3 5), (rf 3 6), (rf 3 7), (rf 3 8), (rf 3 9), (rf 26 0), (rf 26 1)]
theorem fr_X8_town (F : Nat) (M : gM) : Fr fS_X8_town M rMW (f_X8_town F M) := by
  unfold f_X8_town
  refine fr_bindW (fr_sub (fr_X3_readTown _ _) (by decide)) ag_rf (fun r12 hr12 => ?_)
  refine fr_lt (fun w13 => ?_)
  refine fr_ltM hr12 (by decide) (fun N14 hN14 => ?_)
  refine fr_ltM hN14 (by decide) (fun N15 hN15 => ?_)
  refine fr_ite ?_ ?_
  · refine fr_bindV (fr_sub (fr_X7_copyFrom _ _ _ _) (by decide)) hN15 (fun r16 hr16 => ?_)
    refine fr_bindV (fr_sub (fr_X5_beginIn _ _ _ _) (by decide)) hr16 (fun r17 hr17 => ?_)
    refine fr_bindV (fr_sub (fr_X2_build _ _) (by decide)) hr17 (fun r18 hr18 => ?_)
    refine fr_ltM hr18 (by decide) (fun N19 hN19 => ?_)
    refine fr_ltM hN19 (by decide) (fun N20 hN20 => ?_)
    refine fr_ck ?_
    refine fr_ltM hN20 (by decide) (fun N21 hN21 => ?_)
    refine fr_ck ?_
    refine fr_ltM hN21 (by decide) (fun N22 hN22 => ?_)
    first | exact fr_some hN22 | exact fr_ck (fr_some hN22)
  · first | exact fr_some hN15 | exact fr_ck (fr_some hN15)

abbrev fS_X8_width  : List Nat := [27]
theorem fr_X8_width (a0 : Int32) (a1 : Int32) (M : gM) : Fr fS_X8_width M rMW (f_X8_width a0 a1 M) := by
  unfold f_X8_width
  refine fr_bind (fun r4 => ?_)
  refine fr_ite ?_ ?_
  · first | exact fr_some ag_rf | exact fr_ck (fr_some ag_rf)
  · refine fr_ite ?_ ?_
    · first | exact fr_some ag_rf | exact fr_ck (fr_some ag_rf)
    · refine fr_ite ?_ ?_
      · refine fr_ck ?_
        refine fr_lt (fun w5 => ?_)
        refine fr_ck ?_
        refine fr_ltM ag_rf (by decide) (fun N6 hN6 => ?_)
        first | exact fr_some hN6 | exact fr_ck (fr_some hN6)
      · first | exact fr_some ag_rf | exact fr_ck (fr_some ag_rf)

abbrev fS_X8_without  : List Nat := [43, 44, 46, 47, 48, 49, 50, 51, 52, 53, 54, 55, 56, 57, 58, 60, 61, 62, 63, 64, 65, 66, 67, 68, 69, 70, 71, 72, 74, 75, 76, 77, 78, 79, 80, 81, 82, 83, 84, 85, 86, 87]
theorem fr_X8_without (F : Nat) (a0 : Int32) (M : gM) : Fr fS_X8_without M rMW (f_X8_without F a0 M) := by
  unfold f_X8_without
  refine fr_bind (fun r7 => ?_)
  refine fr_ite ?_ ?_
  · first | exact fr_some ag_rf | exact fr_ck (fr_some ag_rf)
  · refine fr_bindV (fr_sub (fr_X8_dressBest _ _ _) (by decide)) ag_rf (fun r8 hr8 => ?_)
    refine fr_lt (fun w9 => ?_)
    refine fr_bind (fun r10 => ?_)
    refine fr_bindV (fr_sub (fr_X8_dressBest _ _ _) (by decide)) hr8 (fun r11 hr11 => ?_)
    refine fr_lt (fun w12 => ?_)
    refine fr_ite ?_ ?_
    · first | exact fr_some hr11 | exact fr_ck (fr_some hr11)
    · refine fr_ite ?_ ?_
      · first | exact fr_some hr11 | exact fr_ck (fr_some hr11)
      · first | exact fr_some hr11 | exact fr_ck (fr_some hr11)

abbrev fS_X8_write  : List Nat := [91, 92, 93]
theorem fr_X8_write (a0 : Int32) (a1 : Int32) (M : gM) : Fr fS_X8_write M rMW (f_X8_write a0 a1 M) := by
  unfold f_X8_write
  refine fr_bind (fun r4 => ?_)
  refine fr_ite ?_ ?_
  · first | exact fr_some ag_rf | exact fr_ck (fr_some ag_rf)
  · refine fr_bind (fun r5 => ?_)
    refine fr_ite ?_ ?_
    · first | exact fr_some ag_rf | exact fr_ck (fr_some ag_rf)
    · refine fr_bindW (fr_sub (fr_X0_add _ _ _) (by decide)) ag_rf (fun r6 hr6 => ?_)
      refine fr_ite ?_ ?_
      · first | exact fr_some hr6 | exact fr_ck (fr_some hr6)
      · first | exact fr_some hr6 | exact fr_ck (fr_some hr6)

abbrev fS_X9_addScene  : List Nat := [113, 114]
theorem fr_X9_addScene_h62_b (F : Nat) (a0 : Int32) (a1 : Int32) (k36 : Int32 → gM → Option gM) {M0 : gM} (hk36 : ∀ (x3 : Int32) (M : gM) (hM : ag fS_X9_addScene M0 M) , Fr fS_X9_addScene M0 rMV (k36 x3 M)) (k62 : Int32 → Int32 → gM → Option gM) (hk62 : ∀ (x3 : Int32) (x4 : Int32) (M : gM) (hM : ag fS_X9_addScene M0 M) , Fr fS_X9_addScene M0 rMV (k62 x3 x4 M)) (x3 : Int32) (x4 : Int32) (M : gM) (hM : ag fS_X9_addScene M0 M)  : Fr fS_X9_addScene M0 rMV (f_X9_addScene_h62_b F a0 a1 k36 k62 x3 x4 M) := by
  unfold f_X9_addScene_h62_b
  refine fr_ite ?_ ?_
  · exact hk36 _ _ hM
  · refine fr_ck ?_
    refine fr_ite ?_ ?_
    · exact hk62 _ _ _ hM
    · refine fr_ck ?_
      refine fr_ite ?_ ?_
      · refine fr_ck ?_
        refine fr_ck ?_
        refine fr_ltM hM (by decide) (fun N5 hN5 => ?_)
        exact hk62 _ _ _ hN5
      · exact hk62 _ _ _ hM

theorem fr_X9_addScene_h62 (F : Nat) (a0 : Int32) (a1 : Int32) (k36 : Int32 → gM → Option gM) {M0 : gM} (hk36 : ∀ (x3 : Int32) (M : gM) (hM : ag fS_X9_addScene M0 M) , Fr fS_X9_addScene M0 rMV (k36 x3 M)) : ∀ (n : Nat) (x3 : Int32) (x4 : Int32) (M : gM) (hM : ag fS_X9_addScene M0 M) , Fr fS_X9_addScene M0 rMV (f_X9_addScene_h62 F a0 a1 k36 n x3 x4 M) := by
  intro n
  induction n with
  | zero =>
    intro x3 x4 M hM  r hr
    have hr2 : (none : Option gM) = some r := hr
    cases hr2
  | succ n ih =>
    intro x3 x4 M hM 
    exact fr_X9_addScene_h62_b _ _ _ _ hk36 _ ih x3 x4 M hM 
theorem fr_X9_addScene_h36_b (F : Nat) (a0 : Int32) (a1 : Int32)  {M0 : gM}  (k36 : Int32 → gM → Option gM) (hk36 : ∀ (x3 : Int32) (M : gM) (hM : ag fS_X9_addScene M0 M) , Fr fS_X9_addScene M0 rMV (k36 x3 M)) (x3 : Int32) (M : gM) (hM : ag fS_X9_addScene M0 M)  : Fr fS_X9_addScene M0 rMV (f_X9_addScene_h36_b F a0 a1  k36 x3 M) := by
  unfold f_X9_addScene_h36_b
  refine fr_ite ?_ ?_
  · exact fr_some hM
  · refine fr_ck ?_
    refine fr_bind (fun r6 => ?_)
    refine fr_ite ?_ ?_
    · exact hk36 _ _ hM
    · exact fr_X9_addScene_h62 _ _ _ _ hk36 _ _ _ _ hM

theorem fr_X9_addScene_h36 (F : Nat) (a0 : Int32) (a1 : Int32)  {M0 : gM}  : ∀ (n : Nat) (x3 : Int32) (M : gM) (hM : ag fS_X9_addScene M0 M) , Fr fS_X9_addScene M0 rMV (f_X9_addScene_h36 F a0 a1  n x3 M) := by
  intro n
  induction n with
  | zero =>
    intro x3 M hM  r hr
    have hr2 : (none : Option gM) = some r := hr
    cases hr2
  | succ n ih =>
    intro x3 M hM 
    exact fr_X9_addScene_h36_b _ _ _   _ ih x3 M hM 
theorem fr_X9_addScene_h2_b (F : Nat) (a0 : Int32) (a1 : Int32)  {M0 : gM}  (k2 : Int32 → gM → Option gM) (hk2 : ∀ (x3 : Int32) (M : gM) (hM : ag fS_X9_addScene M0 M) , Fr fS_X9_addScene M0 rMV (k2 x3 M)) (x3 : Int32) (M : gM) (hM : ag fS_X9_addScene M0 M)  : Fr fS_X9_addScene M0 rMV (f_X9_addScene_h2_b F a0 a1  k2 x3 M) := by
  unfold f_X9_addScene_h2_b
  refine fr_ite ?_ ?_
  · exact fr_X9_addScene_h36 _ _ _ _ _ _ hM
  · refine fr_ck ?_
    refine fr_ck ?_
    refine fr_ltM hM (by decide) (fun N7 hN7 => ?_)
    refine fr_ck ?_
    refine fr_ltM hN7 (by decide) (fun N8 hN8 => ?_)
    exact hk2 _ _ hN8

theorem fr_X9_addScene_h2 (F : Nat) (a0 : Int32) (a1 : Int32)  {M0 : gM}  : ∀ (n : Nat) (x3 : Int32) (M : gM) (hM : ag fS_X9_addScene M0 M) , Fr fS_X9_addScene M0 rMV (f_X9_addScene_h2 F a0 a1  n x3 M) := by
  intro n
  induction n with
  | zero =>
    intro x3 M hM  r hr
    have hr2 : (none : Option gM) = some r := hr
    cases hr2
  | succ n ih =>
    intro x3 M hM 
    exact fr_X9_addScene_h2_b _ _ _   _ ih x3 M hM 
theorem fr_X9_addScene (F : Nat) (a0 : Int32) (a1 : Int32) (M : gM) : Fr fS_X9_addScene M rMV (f_X9_addScene F a0 a1 M) := by
  unfold f_X9_addScene
  exact fr_X9_addScene_h2 _ _ _ _ _ _ ag_rf

abbrev fS_X9_canRest  : List Nat := [113, 114]
theorem fr_X9_canRest_h37_b (F : Nat) (a0 : Int32) (a1 : Int32) (a2 : Int32)  {M0 : gM}  (k37 : Int32 → gM → Option (Int32 × gM)) (hk37 : ∀ (x4 : Int32) (M : gM) (hM : ag fS_X9_canRest M0 M) , Fr fS_X9_canRest M0 rMW (k37 x4 M)) (x4 : Int32) (M : gM) (hM : ag fS_X9_canRest M0 M)  : Fr fS_X9_canRest M0 rMW (f_X9_canRest_h37_b F a0 a1 a2  k37 x4 M) := by
  unfold f_X9_canRest_h37_b
  refine fr_ck ?_
  refine fr_ite ?_ ?_
  · refine fr_ck ?_
    first | exact fr_ck (fr_some hM) | exact fr_some hM
  · refine fr_ck ?_
    refine fr_ite ?_ ?_
    · refine fr_bindV (fr_sub (fr_X9_addScene _ _ _ _) (by decide)) hM (fun r4 hr4 => ?_)
      exact hk37 _ _ hr4
    · exact hk37 _ _ hM

theorem fr_X9_canRest_h37 (F : Nat) (a0 : Int32) (a1 : Int32) (a2 : Int32)  {M0 : gM}  : ∀ (n : Nat) (x4 : Int32) (M : gM) (hM : ag fS_X9_canRest M0 M) , Fr fS_X9_canRest M0 rMW (f_X9_canRest_h37 F a0 a1 a2  n x4 M) := by
  intro n
  induction n with
  | zero =>
    intro x4 M hM  r hr
    have hr2 : (none : Option (Int32 × gM)) = some r := hr
    cases hr2
  | succ n ih =>
    intro x4 M hM 
    exact fr_X9_canRest_h37_b _ _ _ _   _ ih x4 M hM 
theorem fr_X9_canRest_h3_b (F : Nat) (a0 : Int32) (a1 : Int32) (a2 : Int32)  {M0 : gM}  (k3 : Int32 → gM → Option (Int32 × gM)) (hk3 : ∀ (x4 : Int32) (M : gM) (hM : ag fS_X9_canRest M0 M) , Fr fS_X9_canRest M0 rMW (k3 x4 M)) (x4 : Int32) (M : gM) (hM : ag fS_X9_canRest M0 M)  : Fr fS_X9_canRest M0 rMW (f_X9_canRest_h3_b F a0 a1 a2  k3 x4 M) := by
  unfold f_X9_canRest_h3_b
  refine fr_ite ?_ ?_
  · exact fr_X9_canRest_h37 _ _ _ _ _ _ _ hM
  · refine fr_ite ?_ ?_
    · refine fr_ck ?_
      refine fr_ltM hM (by decide) (fun N6 hN6 => ?_)
      exact hk3 _ _ hN6
    · refine fr_ck ?_
      refine fr_ltM hM (by decide) (fun N5 hN5 => ?_)
      exact hk3 _ _ hN5

theorem fr_X9_canRest_h3 (F : Nat) (a0 : Int32) (a1 : Int32) (a2 : Int32)  {M0 : gM}  : ∀ (n : Nat) (x4 : Int32) (M : gM) (hM : ag fS_X9_canRest M0 M) , Fr fS_X9_canRest M0 rMW (f_X9_canRest_h3 F a0 a1 a2  n x4 M) := by
  intro n
  induction n with
  | zero =>
    intro x4 M hM  r hr
    have hr2 : (none : Option (Int32 × gM)) = some r := hr
    cases hr2
  | succ n ih =>
    intro x4 M hM 
    exact fr_X9_canRest_h3_b _ _ _ _   _ ih x4 M hM 
theorem fr_X9_canRest (F : Nat) (a0 : Int32) (a1 : Int32) (a2 : Int32) (M : gM) : Fr fS_X9_canRest M rMW (f_X9_canRest F a0 a1 a2 M) := by
  unfold f_X9_canRest
  exact fr_X9_canRest_h3 _ _ _ _ _ _ _ ag_rf

abbrev fS_X9_copy  : List Nat := [96]
theorem fr_X9_copy_h2_b (F : Nat) (a0 : Int32) (a1 : Int32)  {M0 : gM}  (k2 : Int32 → gM → Option gM) (hk2 : ∀ (x3 : Int32) (M : gM) (hM : ag fS_X9_copy M0 M) , Fr fS_X9_copy M0 rMV (k2 x3 M)) (x3 : Int32) (M : gM) (hM : ag fS_X9_copy M0 M)  : Fr fS_X9_copy M0 rMV (f_X9_copy_h2_b F a0 a1  k2 x3 M) := by
  unfold f_X9_copy_h2_b
  refine fr_ite ?_ ?_
  · exact fr_some hM
  · refine fr_ck ?_
    refine fr_ck ?_
    refine fr_ltM hM (by decide) (fun N2 hN2 => ?_)
    exact hk2 _ _ hN2

theorem fr_X9_copy_h2 (F : Nat) (a0 : Int32) (a1 : Int32)  {M0 : gM}  : ∀ (n : Nat) (x3 : Int32) (M : gM) (hM : ag fS_X9_copy M0 M) , Fr fS_X9_copy M0 rMV (f_X9_copy_h2 F a0 a1  n x3 M) := by
  intro n
  induction n with
  | zero =>
    intro x3 M hM  r hr
    have hr2 : (none : Option gM) = some r := hr
    cases hr2
  | succ n ih =>
    intro x3 M hM 
    exact fr_X9_copy_h2_b _ _ _   _ ih x3 M hM 
theorem fr_X9_copy (F : Nat) (a0 : Int32) (a1 : Int32) (M : gM) : Fr fS_X9_copy M rMV (f_X9_copy F a0 a1 M) := by
  unfold f_X9_copy
  exact fr_X9_copy_h2 _ _ _ _ _ _ ag_rf

abbrev fS_X9_findSets  : List Nat := [111, 113, 114]
theorem fr_X9_findSets_h66_b (F : Nat) (a0 : Int32) (a1 : Int32)  {M0 : gM}  (k66 : Int32 → gM → Option gM) (hk66 : ∀ (x3 : Int32) (M : gM) (hM : ag fS_X9_findSets M0 M) , Fr fS_X9_findSets M0 rMV (k66 x3 M)) (x3 : Int32) (M : gM) (hM : ag fS_X9_findSets M0 M)  : Fr fS_X9_findSets M0 rMV (f_X9_findSets_h66_b F a0 a1  k66 x3 M) := by
  unfold f_X9_findSets_h66_b
  refine fr_ite ?_ ?_
  · exact fr_some hM
  · refine fr_ck ?_
    refine fr_ck ?_
    refine fr_ltM hM (by decide) (fun N5 hN5 => ?_)
    exact hk66 _ _ hN5

theorem fr_X9_findSets_h66 (F : Nat) (a0 : Int32) (a1 : Int32)  {M0 : gM}  : ∀ (n : Nat) (x3 : Int32) (M : gM) (hM : ag fS_X9_findSets M0 M) , Fr fS_X9_findSets M0 rMV (f_X9_findSets_h66 F a0 a1  n x3 M) := by
  intro n
  induction n with
  | zero =>
    intro x3 M hM  r hr
    have hr2 : (none : Option gM) = some r := hr
    cases hr2
  | succ n ih =>
    intro x3 M hM 
    exact fr_X9_findSets_h66_b _ _ _   _ ih x3 M hM 
theorem fr_X9_findSets_h32_b (F : Nat) (a0 : Int32) (a1 : Int32)  {M0 : gM}  (k32 : Int32 → gM → Option gM) (hk32 : ∀ (x3 : Int32) (M : gM) (hM : ag fS_X9_findSets M0 M) , Fr fS_X9_findSets M0 rMV (k32 x3 M)) (x3 : Int32) (M : gM) (hM : ag fS_X9_findSets M0 M)  : Fr fS_X9_findSets M0 rMV (f_X9_findSets_h32_b F a0 a1  k32 x3 M) := by
  unfold f_X9_findSets_h32_b
  refine fr_ck ?_
  refine fr_ite ?_ ?_
  · exact fr_X9_findSets_h66 _ _ _ _ _ _ hM
  · refine fr_ck ?_
    refine fr_ite ?_ ?_
    · refine fr_bindV (fr_sub (fr_X9_addScene _ _ _ _) (by decide)) hM (fun r6 hr6 => ?_)
      exact hk32 _ _ hr6
    · exact hk32 _ _ hM

theorem fr_X9_findSets_h32 (F : Nat) (a0 : Int32) (a1 : Int32)  {M0 : gM}  : ∀ (n : Nat) (x3 : Int32) (M : gM) (hM : ag fS_X9_findSets M0 M) , Fr fS_X9_findSets M0 rMV (f_X9_findSets_h32 F a0 a1  n x3 M) := by
  intro n
  induction n with
  | zero =>
    intro x3 M hM  r hr
    have hr2 : (none : Option gM) = some r := hr
    cases hr2
  | succ n ih =>
    intro x3 M hM 
    exact fr_X9_findSets_h32_b _ _ _   _ ih x3 M hM 
theorem fr_X9_findSets_h2_b (F : Nat) (a0 : Int32) (a1 : Int32)  {M0 : gM}  (k2 : Int32 → gM → Option gM) (hk2 : ∀ (x3 : Int32) (M : gM) (hM : ag fS_X9_findSets M0 M) , Fr fS_X9_findSets M0 rMV (k2 x3 M)) (x3 : Int32) (M : gM) (hM : ag fS_X9_findSets M0 M)  : Fr fS_X9_findSets M0 rMV (f_X9_findSets_h2_b F a0 a1  k2 x3 M) := by
  unfold f_X9_findSets_h2_b
  refine fr_ite ?_ ?_
  · exact fr_X9_findSets_h32 _ _ _ _ _ _ hM
  · refine fr_ite ?_ ?_
    · refine fr_ck ?_
      refine fr_ltM hM (by decide) (fun N8 hN8 => ?_)
      exact hk2 _ _ hN8
    · refine fr_ck ?_
      refine fr_ltM hM (by decide) (fun N7 hN7 => ?_)
      exact hk2 _ _ hN7

theorem fr_X9_findSets_h2 (F : Nat) (a0 : Int32) (a1 : Int32)  {M0 : gM}  : ∀ (n : Nat) (x3 : Int32) (M : gM) (hM : ag fS_X9_findSets M0 M) , Fr fS_X9_findSets M0 rMV (f_X9_findSets_h2 F a0 a1  n x3 M) := by
  intro n
  induction n with
  | zero =>
    intro x3 M hM  r hr
    have hr2 : (none : Option gM) = some r := hr
    cases hr2
  | succ n ih =>
    intro x3 M hM 
    exact fr_X9_findSets_h2_b _ _ _   _ ih x3 M hM 
theorem fr_X9_findSets (F : Nat) (a0 : Int32) (a1 : Int32) (M : gM) : Fr fS_X9_findSets M rMV (f_X9_findSets F a0 a1 M) := by
  unfold f_X9_findSets
  exact fr_X9_findSets_h2 _ _ _ _ _ _ ag_rf

abbrev fS_X9_findAllSets  : List Nat := [111, 113, 114]
theorem fr_X9_findAllSets_h2_b (F : Nat) (a0 : Int32)  {M0 : gM}  (k2 : Int32 → gM → Option gM) (hk2 : ∀ (x2 : Int32) (M : gM) (hM : ag fS_X9_findAllSets M0 M) , Fr fS_X9_findAllSets M0 rMV (k2 x2 M)) (x2 : Int32) (M : gM) (hM : ag fS_X9_findAllSets M0 M)  : Fr fS_X9_findAllSets M0 rMV (f_X9_findAllSets_h2_b F a0  k2 x2 M) := by
  unfold f_X9_findAllSets_h2_b
  refine fr_ite ?_ ?_
  · exact fr_some hM
  · refine fr_bindV (fr_sub (fr_X9_findSets _ _ _ _) (by decide)) hM (fun r2 hr2 => ?_)
    exact hk2 _ _ hr2

theorem fr_X9_findAllSets_h2 (F : Nat) (a0 : Int32)  {M0 : gM}  : ∀ (n : Nat) (x2 : Int32) (M : gM) (hM : ag fS_X9_findAllSets M0 M) , Fr fS_X9_findAllSets M0 rMV (f_X9_findAllSets_h2 F a0  n x2 M) := by
  intro n
  induction n with
  | zero =>
    intro x2 M hM  r hr
    have hr2 : (none : Option gM) = some r := hr
    cases hr2
  | succ n ih =>
    intro x2 M hM 
    exact fr_X9_findAllSets_h2_b _ _   _ ih x2 M hM 
theorem fr_X9_findAllSets (F : Nat) (a0 : Int32) (M : gM) : Fr fS_X9_findAllSets M rMV (f_X9_findAllSets F a0 M) := by
  unfold f_X9_findAllSets
  exact fr_X9_findAllSets_h2 _ _ _ _ _ ag_rf

abbrev fS_X9_findLeast  : List Nat := [112]
theorem fr_X9_findLeast_h52_b (F : Nat) (a0 : Int32) (k29 : Int32 → gM → Option gM) {M0 : gM} (hk29 : ∀ (x2 : Int32) (M : gM) (hM : ag fS_X9_findLeast M0 M) , Fr fS_X9_findLeast M0 rMV (k29 x2 M)) (k52 : Int32 → Int32 → gM → Option gM) (hk52 : ∀ (x2 : Int32) (x3 : Int32) (M : gM) (hM : ag fS_X9_findLeast M0 M) , Fr fS_X9_findLeast M0 rMV (k52 x2 x3 M)) (x2 : Int32) (x3 : Int32) (M : gM) (hM : ag fS_X9_findLeast M0 M)  : Fr fS_X9_findLeast M0 rMV (f_X9_findLeast_h52_b F a0 k29 k52 x2 x3 M) := by
  unfold f_X9_findLeast_h52_b
  refine fr_ite ?_ ?_
  · exact hk29 _ _ hM
  · refine fr_ite ?_ ?_
    · exact hk29 _ _ hM
    · refine fr_ck ?_
      refine fr_ite ?_ ?_
      · refine fr_ck ?_
        refine fr_ite ?_ ?_
        · refine fr_ck ?_
          refine fr_ltM hM (by decide) (fun N7 hN7 => ?_)
          exact hk52 _ _ _ hN7
        · refine fr_bind (fun r8 => ?_)
          refine fr_ck ?_
          refine fr_ltM hM (by decide) (fun N9 hN9 => ?_)
          exact hk52 _ _ _ hN9
      · exact hk29 _ _ hM

theorem fr_X9_findLeast_h52 (F : Nat) (a0 : Int32) (k29 : Int32 → gM → Option gM) {M0 : gM} (hk29 : ∀ (x2 : Int32) (M : gM) (hM : ag fS_X9_findLeast M0 M) , Fr fS_X9_findLeast M0 rMV (k29 x2 M)) : ∀ (n : Nat) (x2 : Int32) (x3 : Int32) (M : gM) (hM : ag fS_X9_findLeast M0 M) , Fr fS_X9_findLeast M0 rMV (f_X9_findLeast_h52 F a0 k29 n x2 x3 M) := by
  intro n
  induction n with
  | zero =>
    intro x2 x3 M hM  r hr
    have hr2 : (none : Option gM) = some r := hr
    cases hr2
  | succ n ih =>
    intro x2 x3 M hM 
    exact fr_X9_findLeast_h52_b _ _ _ hk29 _ ih x2 x3 M hM 
theorem fr_X9_findLeast_h29_b (F : Nat) (a0 : Int32)  {M0 : gM}  (k29 : Int32 → gM → Option gM) (hk29 : ∀ (x2 : Int32) (M : gM) (hM : ag fS_X9_findLeast M0 M) , Fr fS_X9_findLeast M0 rMV (k29 x2 M)) (x2 : Int32) (M : gM) (hM : ag fS_X9_findLeast M0 M)  : Fr fS_X9_findLeast M0 rMV (f_X9_findLeast_h29_b F a0  k29 x2 M) := by
  unfold f_X9_findLeast_h29_b
  refine fr_ite ?_ ?_
  · exact fr_some hM
  · refine fr_bind (fun r10 => ?_)
    refine fr_ck ?_
    refine fr_ltM hM (by decide) (fun N11 hN11 => ?_)
    exact fr_X9_findLeast_h52 _ _ _ hk29 _ _ _ _ hN11

theorem fr_X9_findLeast_h29 (F : Nat) (a0 : Int32)  {M0 : gM}  : ∀ (n : Nat) (x2 : Int32) (M : gM) (hM : ag fS_X9_findLeast M0 M) , Fr fS_X9_findLeast M0 rMV (f_X9_findLeast_h29 F a0  n x2 M) := by
  intro n
  induction n with
  | zero =>
    intro x2 M hM  r hr
    have hr2 : (none : Option gM) = some r := hr
    cases hr2
  | succ n ih =>
    intro x2 M hM 
    exact fr_X9_findLeast_h29_b _ _   _ ih x2 M hM 
theorem fr_X9_findLeast_h2_b (F : Nat) (a0 : Int32)  {M0 : gM}  (k2 : Int32 → gM → Option gM) (hk2 : ∀ (x2 : Int32) (M : gM) (hM : ag fS_X9_findLeast M0 M) , Fr fS_X9_findLeast M0 rMV (k2 x2 M)) (x2 : Int32) (M : gM) (hM : ag fS_X9_findLeast M0 M)  : Fr fS_X9_findLeast M0 rMV (f_X9_findLeast_h2_b F a0  k2 x2 M) := by
  unfold f_X9_findLeast_h2_b
  refine fr_ite ?_ ?_
  · exact fr_X9_findLeast_h29 _ _ _ _ _ hM
  · refine fr_ck ?_
    refine fr_ltM hM (by decide) (fun N12 hN12 => ?_)
    exact hk2 _ _ hN12

theorem fr_X9_findLeast_h2 (F : Nat) (a0 : Int32)  {M0 : gM}  : ∀ (n : Nat) (x2 : Int32) (M : gM) (hM : ag fS_X9_findLeast M0 M) , Fr fS_X9_findLeast M0 rMV (f_X9_findLeast_h2 F a0  n x2 M) := by
  intro n
  induction n with
  | zero =>
    intro x2 M hM  r hr
    have hr2 : (none : Option gM) = some r := hr
    cases hr2
  | succ n ih =>
    intro x2 M hM 
    exact fr_X9_findLeast_h2_b _ _   _ ih x2 M hM 
theorem fr_X9_findLeast (F : Nat) (a0 : Int32) (M : gM) : Fr fS_X9_findLeast M rMV (f_X9_findLeast F a0 M) := by
  unfold f_X9_findLeast
  exact fr_X9_findLeast_h2 _ _ _ _ _ ag_rf

abbrev fS_X9_leastIn  : List Nat := [111, 112, 113, 114]
theorem fr_X9_leastIn (F : Nat) (a0 : Int32) (M : gM) : Fr fS_X9_leastIn M rMW (f_X9_leastIn F a0 M) := by
  unfold f_X9_leastIn
  refine fr_bindV (fr_sub (fr_X9_findAllSets _ _ _) (by decide)) ag_rf (fun r3 hr3 => ?_)
  refine fr_bindV (fr_sub (fr_X9_findLeast _ _ _) (by decide)) hr3 (fun r4 hr4 => ?_)
  refine fr_ck ?_
  refine fr_ite ?_ ?_
  · refine fr_ck ?_
    first | exact fr_some hr4 | exact fr_ck (fr_some hr4)
  · first | exact fr_some hr4 | exact fr_ck (fr_some hr4)

abbrev fS_X9_findWorn  : List Nat := [115]
theorem fr_X9_findWorn_b122 (F : Nat) (a0 : Int32) (k4 : Int32 → Int32 → gM → Option gM) (k16 : Int32 → Int32 → Int32 → Int32 → gM → Option gM) {M0 : gM} (hk4 : ∀ (x2 : Int32) (x3 : Int32) (M : gM) (hM : ag fS_X9_findWorn M0 M) , Fr fS_X9_findWorn M0 rMV (k4 x2 x3 M)) (hk16 : ∀ (x2 : Int32) (x3 : Int32) (x4 : Int32) (x5 : Int32) (M : gM) (hM : ag fS_X9_findWorn M0 M) , Fr fS_X9_findWorn M0 rMV (k16 x2 x3 x4 x5 M)) (x2 : Int32) (x3 : Int32) (x4 : Int32) (s0 : Int32) (M : gM) (hM : ag fS_X9_findWorn M0 M)  : Fr fS_X9_findWorn M0 rMV (f_X9_findWorn_b122 F a0 k4 k16 x2 x3 x4 s0 M) := by
  unfold f_X9_findWorn_b122
  refine fr_ite ?_ ?_
  · refine fr_bind (fun r9 => ?_)
    refine fr_lt (fun w10 => ?_)
    exact hk16 _ _ _ _ _ hM
  · refine fr_bind (fun r7 => ?_)
    refine fr_lt (fun w8 => ?_)
    exact hk16 _ _ _ _ _ hM

theorem fr_X9_findWorn_b121 (F : Nat) (a0 : Int32) (k4 : Int32 → Int32 → gM → Option gM) (k16 : Int32 → Int32 → Int32 → Int32 → gM → Option gM) {M0 : gM} (hk4 : ∀ (x2 : Int32) (x3 : Int32) (M : gM) (hM : ag fS_X9_findWorn M0 M) , Fr fS_X9_findWorn M0 rMV (k4 x2 x3 M)) (hk16 : ∀ (x2 : Int32) (x3 : Int32) (x4 : Int32) (x5 : Int32) (M : gM) (hM : ag fS_X9_findWorn M0 M) , Fr fS_X9_findWorn M0 rMV (k16 x2 x3 x4 x5 M)) (x2 : Int32) (x3 : Int32) (x4 : Int32) (M : gM) (hM : ag fS_X9_findWorn M0 M)  : Fr fS_X9_findWorn M0 rMV (f_X9_findWorn_b121 F a0 k4 k16 x2 x3 x4 M) := by
  unfold f_X9_findWorn_b121
  exact fr_X9_findWorn_b122 _ _ _ _ hk4 hk16 _ _ _ _ _ hM

theorem fr_X9_findWorn_b76 (F : Nat) (a0 : Int32) (k4 : Int32 → Int32 → gM → Option gM) (k16 : Int32 → Int32 → Int32 → Int32 → gM → Option gM) {M0 : gM} (hk4 : ∀ (x2 : Int32) (x3 : Int32) (M : gM) (hM : ag fS_X9_findWorn M0 M) , Fr fS_X9_findWorn M0 rMV (k4 x2 x3 M)) (hk16 : ∀ (x2 : Int32) (x3 : Int32) (x4 : Int32) (x5 : Int32) (M : gM) (hM : ag fS_X9_findWorn M0 M) , Fr fS_X9_findWorn M0 rMV (k16 x2 x3 x4 x5 M)) (x2 : Int32) (x3 : Int32) (x4 : Int32) (x6 : Int32) (M : gM) (hM : ag fS_X9_findWorn M0 M)  : Fr fS_X9_findWorn M0 rMV (f_X9_findWorn_b76 F a0 k4 k16 x2 x3 x4 x6 M) := by
  unfold f_X9_findWorn_b76
  refine fr_bind (fun r11 => ?_)
  refine fr_ck ?_
  refine fr_ck ?_
  refine fr_ite ?_ ?_
  · exact fr_X9_findWorn_b122 _ _ _ _ hk4 hk16 _ _ _ _ _ hM
  · exact fr_X9_findWorn_b121 _ _ _ _ hk4 hk16 _ _ _ _ hM

theorem fr_X9_findWorn_b39 (F : Nat) (a0 : Int32) (k4 : Int32 → Int32 → gM → Option gM) (k16 : Int32 → Int32 → Int32 → Int32 → gM → Option gM) {M0 : gM} (hk4 : ∀ (x2 : Int32) (x3 : Int32) (M : gM) (hM : ag fS_X9_findWorn M0 M) , Fr fS_X9_findWorn M0 rMV (k4 x2 x3 M)) (hk16 : ∀ (x2 : Int32) (x3 : Int32) (x4 : Int32) (x5 : Int32) (M : gM) (hM : ag fS_X9_findWorn M0 M) , Fr fS_X9_findWorn M0 rMV (k16 x2 x3 x4 x5 M)) (x2 : Int32) (x3 : Int32) (x4 : Int32) (s0 : Int32) (M : gM) (hM : ag fS_X9_findWorn M0 M)  : Fr fS_X9_findWorn M0 rMV (f_X9_findWorn_b39 F a0 k4 k16 x2 x3 x4 s0 M) := by
  unfold f_X9_findWorn_b39
  refine fr_ck ?_
  refine fr_ite ?_ ?_
  · exact fr_X9_findWorn_b121 _ _ _ _ hk4 hk16 _ _ _ _ hM
  · refine fr_ck ?_
    refine fr_ite ?_ ?_
    · exact fr_X9_findWorn_b76 _ _ _ _ hk4 hk16 _ _ _ _ _ hM
    · refine fr_ite ?_ ?_
      · exact fr_X9_findWorn_b76 _ _ _ _ hk4 hk16 _ _ _ _ _ hM
      · exact fr_X9_findWorn_b121 _ _ _ _ hk4 hk16 _ _ _ _ hM

theorem fr_X9_findWorn_h16_b (F : Nat) (a0 : Int32) (k4 : Int32 → Int32 → gM → Option gM) {M0 : gM} (hk4 : ∀ (x2 : Int32) (x3 : Int32) (M : gM) (hM : ag fS_X9_findWorn M0 M) , Fr fS_X9_findWorn M0 rMV (k4 x2 x3 M)) (k16 : Int32 → Int32 → Int32 → Int32 → gM → Option gM) (hk16 : ∀ (x2 : Int32) (x3 : Int32) (x4 : Int32) (x5 : Int32) (M : gM) (hM : ag fS_X9_findWorn M0 M) , Fr fS_X9_findWorn M0 rMV (k16 x2 x3 x4 x5 M)) (x2 : Int32) (x3 : Int32) (x4 : Int32) (x5 : Int32) (M : gM) (hM : ag fS_X9_findWorn M0 M)  : Fr fS_X9_findWorn M0 rMV (f_X9_findWorn_h16_b F a0 k4 k16 x2 x3 x4 x5 M) := by
  unfold f_X9_findWorn_h16_b
  refine fr_ite ?_ ?_
  · refine fr_ck ?_
    refine fr_ite ?_ ?_
    · exact fr_X9_findWorn_b39 _ _ _ _ hk4 hk16 _ _ _ _ _ hM
    · exact fr_X9_findWorn_b39 _ _ _ _ hk4 hk16 _ _ _ _ _ hM
  · refine fr_ck ?_
    refine fr_ltM hM (by decide) (fun N12 hN12 => ?_)
    refine fr_ck ?_
    refine fr_ite ?_ ?_
    · exact hk4 _ _ _ hN12
    · exact hk4 _ _ _ hN12

theorem fr_X9_findWorn_h16 (F : Nat) (a0 : Int32) (k4 : Int32 → Int32 → gM → Option gM) {M0 : gM} (hk4 : ∀ (x2 : Int32) (x3 : Int32) (M : gM) (hM : ag fS_X9_findWorn M0 M) , Fr fS_X9_findWorn M0 rMV (k4 x2 x3 M)) : ∀ (n : Nat) (x2 : Int32) (x3 : Int32) (x4 : Int32) (x5 : Int32) (M : gM) (hM : ag fS_X9_findWorn M0 M) , Fr fS_X9_findWorn M0 rMV (f_X9_findWorn_h16 F a0 k4 n x2 x3 x4 x5 M) := by
  intro n
  induction n with
  | zero =>
    intro x2 x3 x4 x5 M hM  r hr
    have hr2 : (none : Option gM) = some r := hr
    cases hr2
  | succ n ih =>
    intro x2 x3 x4 x5 M hM 
    exact fr_X9_findWorn_h16_b _ _ _ hk4 _ ih x2 x3 x4 x5 M hM 
theorem fr_X9_findWorn_h4_b (F : Nat) (a0 : Int32)  {M0 : gM}  (k4 : Int32 → Int32 → gM → Option gM) (hk4 : ∀ (x2 : Int32) (x3 : Int32) (M : gM) (hM : ag fS_X9_findWorn M0 M) , Fr fS_X9_findWorn M0 rMV (k4 x2 x3 M)) (x2 : Int32) (x3 : Int32) (M : gM) (hM : ag fS_X9_findWorn M0 M)  : Fr fS_X9_findWorn M0 rMV (f_X9_findWorn_h4_b F a0  k4 x2 x3 M) := by
  unfold f_X9_findWorn_h4_b
  refine fr_ite ?_ ?_
  · exact fr_some hM
  · exact fr_X9_findWorn_h16 _ _ _ hk4 _ _ _ _ _ _ hM

theorem fr_X9_findWorn_h4 (F : Nat) (a0 : Int32)  {M0 : gM}  : ∀ (n : Nat) (x2 : Int32) (x3 : Int32) (M : gM) (hM : ag fS_X9_findWorn M0 M) , Fr fS_X9_findWorn M0 rMV (f_X9_findWorn_h4 F a0  n x2 x3 M) := by
  intro n
  induction n with
  | zero =>
    intro x2 x3 M hM  r hr
    have hr2 : (none : Option gM) = some r := hr
    cases hr2
  | succ n ih =>
    intro x2 x3 M hM 
    exact fr_X9_findWorn_h4_b _ _   _ ih x2 x3 M hM 
theorem fr_X9_findWorn (F : Nat) (a0 : Int32) (M : gM) : Fr fS_X9_findWorn M rMV (f_X9_findWorn F a0 M) := by
  unfold f_X9_findWorn
  exact fr_X9_findWorn_h4 _ _ _ _ _ _ ag_rf

abbrev fS_X9_pass  : List Nat := [96, 111, 112, 113, 114, 115]
theorem fr_X9_pass_h79_b (F : Nat) (k30 : Int32 → Int32 → gM → Option (Int32 × gM)) {M0 : gM} (hk30 : ∀ (x1 : Int32) (x2 : Int32) (M : gM) (hM : ag fS_X9_pass M0 M) , Fr fS_X9_pass M0 rMW (k30 x1 x2 M)) (k79 : Int32 → Int32 → gM → Option (Int32 × gM)) (hk79 : ∀ (x1 : Int32) (x2 : Int32) (M : gM) (hM : ag fS_X9_pass M0 M) , Fr fS_X9_pass M0 rMW (k79 x1 x2 M)) (x1 : Int32) (x2 : Int32) (M : gM) (hM : ag fS_X9_pass M0 M)  : Fr fS_X9_pass M0 rMW (f_X9_pass_h79_b F k30 k79 x1 x2 M) := by
  unfold f_X9_pass_h79_b
  refine fr_ck ?_
  refine fr_ite ?_ ?_
  · exact hk30 _ _ _ hM
  · refine fr_ck ?_
    refine fr_ck ?_
    refine fr_ltM hM (by decide) (fun N13 hN13 => ?_)
    refine fr_ck ?_
    refine fr_ite ?_ ?_
    · refine fr_ck ?_
      refine fr_ltM hN13 (by decide) (fun N14 hN14 => ?_)
      exact hk79 _ _ _ hN14
    · refine fr_ck ?_
      refine fr_ck ?_
      refine fr_ltM hN13 (by decide) (fun N15 hN15 => ?_)
      exact hk79 _ _ _ hN15

theorem fr_X9_pass_h79 (F : Nat) (k30 : Int32 → Int32 → gM → Option (Int32 × gM)) {M0 : gM} (hk30 : ∀ (x1 : Int32) (x2 : Int32) (M : gM) (hM : ag fS_X9_pass M0 M) , Fr fS_X9_pass M0 rMW (k30 x1 x2 M)) : ∀ (n : Nat) (x1 : Int32) (x2 : Int32) (M : gM) (hM : ag fS_X9_pass M0 M) , Fr fS_X9_pass M0 rMW (f_X9_pass_h79 F k30 n x1 x2 M) := by
  intro n
  induction n with
  | zero =>
    intro x1 x2 M hM  r hr
    have hr2 : (none : Option (Int32 × gM)) = some r := hr
    cases hr2
  | succ n ih =>
    intro x1 x2 M hM 
    exact fr_X9_pass_h79_b _ _ hk30 _ ih x1 x2 M hM 
theorem fr_X9_pass_h42_b (F : Nat) (k30 : Int32 → Int32 → gM → Option (Int32 × gM)) {M0 : gM} (hk30 : ∀ (x1 : Int32) (x2 : Int32) (M : gM) (hM : ag fS_X9_pass M0 M) , Fr fS_X9_pass M0 rMW (k30 x1 x2 M)) (k42 : Int32 → Int32 → Int32 → gM → Option (Int32 × gM)) (hk42 : ∀ (x1 : Int32) (x2 : Int32) (x3 : Int32) (M : gM) (hM : ag fS_X9_pass M0 M) , Fr fS_X9_pass M0 rMW (k42 x1 x2 x3 M)) (x1 : Int32) (x2 : Int32) (x3 : Int32) (M : gM) (hM : ag fS_X9_pass M0 M)  : Fr fS_X9_pass M0 rMW (f_X9_pass_h42_b F k30 k42 x1 x2 x3 M) := by
  unfold f_X9_pass_h42_b
  refine fr_ite ?_ ?_
  · exact fr_X9_pass_h79 _ _ hk30 _ _ _ _ hM
  · refine fr_ck ?_
    refine fr_ck ?_
    refine fr_bind (fun r16 => ?_)
    refine fr_bind (fun r17 => ?_)
    refine fr_ck ?_
    refine fr_ltM hM (by decide) (fun N18 hN18 => ?_)
    exact hk42 _ _ _ _ hN18

theorem fr_X9_pass_h42 (F : Nat) (k30 : Int32 → Int32 → gM → Option (Int32 × gM)) {M0 : gM} (hk30 : ∀ (x1 : Int32) (x2 : Int32) (M : gM) (hM : ag fS_X9_pass M0 M) , Fr fS_X9_pass M0 rMW (k30 x1 x2 M)) : ∀ (n : Nat) (x1 : Int32) (x2 : Int32) (x3 : Int32) (M : gM) (hM : ag fS_X9_pass M0 M) , Fr fS_X9_pass M0 rMW (f_X9_pass_h42 F k30 n x1 x2 x3 M) := by
  intro n
  induction n with
  | zero =>
    intro x1 x2 x3 M hM  r hr
    have hr2 : (none : Option (Int32 × gM)) = some r := hr
    cases hr2
  | succ n ih =>
    intro x1 x2 x3 M hM 
    exact fr_X9_pass_h42_b _ _ hk30 _ ih x1 x2 x3 M hM 
theorem fr_X9_pass_h30_b (F : Nat)  {M0 : gM}  (k30 : Int32 → Int32 → gM → Option (Int32 × gM)) (hk30 : ∀ (x1 : Int32) (x2 : Int32) (M : gM) (hM : ag fS_X9_pass M0 M) , Fr fS_X9_pass M0 rMW (k30 x1 x2 M)) (x1 : Int32) (x2 : Int32) (M : gM) (hM : ag fS_X9_pass M0 M)  : Fr fS_X9_pass M0 rMW (f_X9_pass_h30_b F  k30 x1 x2 M) := by
  unfold f_X9_pass_h30_b
  refine fr_ck ?_
  refine fr_ite ?_ ?_
  · refine fr_ck ?_
    refine fr_ite ?_ ?_
    · refine fr_ck ?_
      refine fr_ck ?_
      refine fr_ltM hM (by decide) (fun N19 hN19 => ?_)
      first | exact fr_some hN19 | exact fr_ck (fr_some hN19)
    · refine fr_ck ?_
      refine fr_ltM hM (by decide) (fun N20 hN20 => ?_)
      first | exact fr_some hN20 | exact fr_ck (fr_some hN20)
  · exact fr_X9_pass_h42 _ _ hk30 _ _ _ _ _ hM

theorem fr_X9_pass_h30 (F : Nat)  {M0 : gM}  : ∀ (n : Nat) (x1 : Int32) (x2 : Int32) (M : gM) (hM : ag fS_X9_pass M0 M) , Fr fS_X9_pass M0 rMW (f_X9_pass_h30 F  n x1 x2 M) := by
  intro n
  induction n with
  | zero =>
    intro x1 x2 M hM  r hr
    have hr2 : (none : Option (Int32 × gM)) = some r := hr
    cases hr2
  | succ n ih =>
    intro x1 x2 M hM 
    exact fr_X9_pass_h30_b _   _ ih x1 x2 M hM 
theorem fr_X9_pass (F : Nat) (M : gM) : Fr fS_X9_pass M rMW (f_X9_pass F M) := by
  unfold f_X9_pass
  refine fr_bindW (fr_sub (fr_X9_leastIn _ _ _) (by decide)) ag_rf (fun r21 hr21 => ?_)
  refine fr_lt (fun w22 => ?_)
  refine fr_ck ?_
  refine fr_ck ?_
  refine fr_ltM hr21 (by decide) (fun N23 hN23 => ?_)
  refine fr_ite ?_ ?_
  · refine fr_bindV (fr_sub (fr_X9_findWorn _ _ _) (by decide)) hN23 (fun r24 hr24 => ?_)
    exact fr_X9_pass_h30 _ _ _ _ _ hr24
  · first | exact fr_some hN23 | exact fr_ck (fr_some hN23)

abbrev fS_X9_day  : List Nat := [96, 111, 112, 113, 114, 115]
theorem fr_X9_day_h19_b (F : Nat) (a0 : Int32)  {M0 : gM}  (k19 : Int32 → Int32 → gM → Option (Int32 × gM)) (hk19 : ∀ (x2 : Int32) (x3 : Int32) (M : gM) (hM : ag fS_X9_day M0 M) , Fr fS_X9_day M0 rMW (k19 x2 x3 M)) (x2 : Int32) (x3 : Int32) (M : gM) (hM : ag fS_X9_day M0 M)  : Fr fS_X9_day M0 rMW (f_X9_day_h19_b F a0  k19 x2 x3 M) := by
  unfold f_X9_day_h19_b
  refine fr_ite ?_ ?_
  · first | exact fr_some hM | exact fr_ck (fr_some hM)
  · refine fr_bindW (fr_sub (fr_X9_pass _ _) (by decide)) hM (fun r4 hr4 => ?_)
    refine fr_lt (fun w5 => ?_)
    exact hk19 _ _ _ hr4

theorem fr_X9_day_h19 (F : Nat) (a0 : Int32)  {M0 : gM}  : ∀ (n : Nat) (x2 : Int32) (x3 : Int32) (M : gM) (hM : ag fS_X9_day M0 M) , Fr fS_X9_day M0 rMW (f_X9_day_h19 F a0  n x2 x3 M) := by
  intro n
  induction n with
  | zero =>
    intro x2 x3 M hM  r hr
    have hr2 : (none : Option (Int32 × gM)) = some r := hr
    cases hr2
  | succ n ih =>
    intro x2 x3 M hM 
    exact fr_X9_day_h19_b _ _   _ ih x2 x3 M hM 
theorem fr_X9_day (F : Nat) (a0 : Int32) (M : gM) : Fr fS_X9_day M rMW (f_X9_day F a0 M) := by
  unfold f_X9_day
  refine fr_bind (fun r6 => ?_)
  refine fr_ite ?_ ?_
  · first | exact fr_some ag_rf | exact fr_ck (fr_some ag_rf)
  · exact fr_X9_day_h19 _ _ _ _ _ _ ag_rf

abbrev fS_X9_draw  : List Nat := [96]
theorem fr_X9_draw (a0 : Int32) (M : gM) : Fr fS_X9_draw M rMW (f_X9_draw a0 M) := by
  unfold f_X9_draw
  refine fr_ck ?_
  refine fr_ck ?_
  refine fr_ltM ag_rf (by decide) (fun N2 hN2 => ?_)
  refine fr_ck ?_
  refine fr_ck ?_
  first | exact fr_some hN2 | exact fr_ck (fr_some hN2)

abbrev fS_X9_firstLook  : List Nat := [113, 114]
theorem fr_X9_firstLook_b50 (F : Nat) (a0 : Int32) (a1 : Int32) (k10 : Int32 → Int32 → gM → Option (Int32 × gM)) {M0 : gM} (hk10 : ∀ (x3 : Int32) (x4 : Int32) (M : gM) (hM : ag fS_X9_firstLook M0 M) , Fr fS_X9_firstLook M0 rMW (k10 x3 x4 M)) (x3 : Int32) (x4 : Int32) (s0 : Int32) (M : gM) (hM : ag fS_X9_firstLook M0 M)  : Fr fS_X9_firstLook M0 rMW (f_X9_firstLook_b50 F a0 a1 k10 x3 x4 s0 M) := by
  unfold f_X9_firstLook_b50
  refine fr_ite ?_ ?_
  · exact hk10 _ _ _ hM
  · refine fr_ck ?_
    refine fr_ck ?_
    refine fr_bindW (fr_sub (fr_X9_canRest _ _ _ _ _) (by decide)) hM (fun r4 hr4 => ?_)
    refine fr_ite ?_ ?_
    · exact hk10 _ _ _ hr4
    · exact hk10 _ _ _ hr4

theorem fr_X9_firstLook_b49 (F : Nat) (a0 : Int32) (a1 : Int32) (k10 : Int32 → Int32 → gM → Option (Int32 × gM)) {M0 : gM} (hk10 : ∀ (x3 : Int32) (x4 : Int32) (M : gM) (hM : ag fS_X9_firstLook M0 M) , Fr fS_X9_firstLook M0 rMW (k10 x3 x4 M)) (x3 : Int32) (x4 : Int32) (M : gM) (hM : ag fS_X9_firstLook M0 M)  : Fr fS_X9_firstLook M0 rMW (f_X9_firstLook_b49 F a0 a1 k10 x3 x4 M) := by
  unfold f_X9_firstLook_b49
  exact fr_X9_firstLook_b50 _ _ _ _ hk10 _ _ _ _ hM

theorem fr_X9_firstLook_h10_b (F : Nat) (a0 : Int32) (a1 : Int32)  {M0 : gM}  (k10 : Int32 → Int32 → gM → Option (Int32 × gM)) (hk10 : ∀ (x3 : Int32) (x4 : Int32) (M : gM) (hM : ag fS_X9_firstLook M0 M) , Fr fS_X9_firstLook M0 rMW (k10 x3 x4 M)) (x3 : Int32) (x4 : Int32) (M : gM) (hM : ag fS_X9_firstLook M0 M)  : Fr fS_X9_firstLook M0 rMW (f_X9_firstLook_h10_b F a0 a1  k10 x3 x4 M) := by
  unfold f_X9_firstLook_h10_b
  refine fr_ite ?_ ?_
  · first | exact fr_some hM | exact fr_ck (fr_some hM)
  · refine fr_ck ?_
    refine fr_ite ?_ ?_
    · refine fr_ck ?_
      refine fr_bind (fun r5 => ?_)
      refine fr_ite ?_ ?_
      · exact fr_X9_firstLook_b49 _ _ _ _ hk10 _ _ _ hM
      · exact fr_X9_firstLook_b50 _ _ _ _ hk10 _ _ _ _ hM
    · exact fr_X9_firstLook_b49 _ _ _ _ hk10 _ _ _ hM

theorem fr_X9_firstLook_h10 (F : Nat) (a0 : Int32) (a1 : Int32)  {M0 : gM}  : ∀ (n : Nat) (x3 : Int32) (x4 : Int32) (M : gM) (hM : ag fS_X9_firstLook M0 M) , Fr fS_X9_firstLook M0 rMW (f_X9_firstLook_h10 F a0 a1  n x3 x4 M) := by
  intro n
  induction n with
  | zero =>
    intro x3 x4 M hM  r hr
    have hr2 : (none : Option (Int32 × gM)) = some r := hr
    cases hr2
  | succ n ih =>
    intro x3 x4 M hM 
    exact fr_X9_firstLook_h10_b _ _ _   _ ih x3 x4 M hM 
theorem fr_X9_firstLook (F : Nat) (a0 : Int32) (a1 : Int32) (M : gM) : Fr fS_X9_firstLook M rMW (f_X9_firstLook F a0 a1 M) := by
  unfold f_X9_firstLook
  refine fr_lt (fun w6 => ?_)
  exact fr_X9_firstLook_h10 _ _ _ _ _ _ _ ag_rf

abbrev fS_X9_lookOf  : List Nat := [113, 114]
theorem fr_X9_lookOf_h17_b (F : Nat) (a0 : Int32)  {M0 : gM}  (k17 : Int32 → Int32 → Int32 → gM → Option (Int32 × gM)) (hk17 : ∀ (x2 : Int32) (x3 : Int32) (x4 : Int32) (M : gM) (hM : ag fS_X9_lookOf M0 M) , Fr fS_X9_lookOf M0 rMW (k17 x2 x3 x4 M)) (x2 : Int32) (x3 : Int32) (x4 : Int32) (M : gM) (hM : ag fS_X9_lookOf M0 M)  : Fr fS_X9_lookOf M0 rMW (f_X9_lookOf_h17_b F a0  k17 x2 x3 x4 M) := by
  unfold f_X9_lookOf_h17_b
  refine fr_ite ?_ ?_
  · refine fr_ck ?_
    first | exact fr_some hM | exact fr_ck (fr_some hM)
  · refine fr_ck ?_
    refine fr_ck ?_
    refine fr_ite ?_ ?_
    · refine fr_bindW (fr_sub (fr_X9_firstLook _ _ _ _) (by decide)) hM (fun r5 hr5 => ?_)
      refine fr_lt (fun w6 => ?_)
      refine fr_ck ?_
      refine fr_lt (fun w7 => ?_)
      exact hk17 _ _ _ _ hr5
    · exact hk17 _ _ _ _ hM

theorem fr_X9_lookOf_h17 (F : Nat) (a0 : Int32)  {M0 : gM}  : ∀ (n : Nat) (x2 : Int32) (x3 : Int32) (x4 : Int32) (M : gM) (hM : ag fS_X9_lookOf M0 M) , Fr fS_X9_lookOf M0 rMW (f_X9_lookOf_h17 F a0  n x2 x3 x4 M) := by
  intro n
  induction n with
  | zero =>
    intro x2 x3 x4 M hM  r hr
    have hr2 : (none : Option (Int32 × gM)) = some r := hr
    cases hr2
  | succ n ih =>
    intro x2 x3 x4 M hM 
    exact fr_X9_lookOf_h17_b _ _   _ ih x2 x3 x4 M hM 
theorem fr_X9_lookOf (F : Nat) (a0 : Int32) (M : gM) : Fr fS_X9_lookOf M rMW (f_X9_lookOf F a0 M) := by
  unfold f_X9_lookOf
  refine fr_ck ?_
  refine fr_ck ?_
  refine fr_lt (fun w8 => ?_)
  exact fr_X9_lookOf_h17 _ _ _ _ _ _ _ ag_rf

abbrev fS_X9_dressing  : List Nat := [111, 112, 113, 114, 115]
theorem fr_X9_dressing_b16 (F : Nat) (a0 : Int32)  {M0 : gM}   (M : gM) (hM : ag fS_X9_dressing M0 M)  : Fr fS_X9_dressing M0 rMW (f_X9_dressing_b16 F a0   M) := by
  unfold f_X9_dressing_b16
  refine fr_bindW (fr_sub (fr_X9_leastIn _ _ _) (by decide)) hM (fun r6 hr6 => ?_)
  refine fr_lt (fun w7 => ?_)
  refine fr_ite ?_ ?_
  · first | exact fr_some hr6 | exact fr_ck (fr_some hr6)
  · refine fr_ite ?_ ?_
    · refine fr_bindV (fr_sub (fr_X9_findWorn _ _ _) (by decide)) hr6 (fun r8 hr8 => ?_)
      refine fr_bindW (fr_sub (fr_X9_lookOf _ _ _) (by decide)) hr8 (fun r9 hr9 => ?_)
      first | exact fr_some hr9 | exact fr_ck (fr_some hr9)
    · first | exact fr_some hr6 | exact fr_ck (fr_some hr6)

theorem fr_X9_dressing (F : Nat) (a0 : Int32) (M : gM) : Fr fS_X9_dressing M rMW (f_X9_dressing F a0 M) := by
  unfold f_X9_dressing
  refine fr_ite ?_ ?_
  · exact fr_X9_dressing_b16 _ _ _ ag_rf
  · refine fr_bind (fun r10 => ?_)
    refine fr_ite ?_ ?_
    · first | exact fr_some ag_rf | exact fr_ck (fr_some ag_rf)
    · exact fr_X9_dressing_b16 _ _ _ ag_rf

abbrev fS_X9_drift  : List Nat := [96, 111, 112, 113, 114, 115]
theorem fr_X9_drift_b75 (F : Nat) (a0 : Int32) (k19 : Int32 → Int32 → gM → Option (Int32 × gM)) (k27 : Int32 → Int32 → Int32 → gM → Option (Int32 × gM)) {M0 : gM} (hk19 : ∀ (x2 : Int32) (x3 : Int32) (M : gM) (hM : ag fS_X9_drift M0 M) , Fr fS_X9_drift M0 rMW (k19 x2 x3 M)) (hk27 : ∀ (x2 : Int32) (x3 : Int32) (x4 : Int32) (M : gM) (hM : ag fS_X9_drift M0 M) , Fr fS_X9_drift M0 rMW (k27 x2 x3 x4 M)) (x2 : Int32) (x3 : Int32) (x4 : Int32) (s0 : Int32) (s1 : Int32) (M : gM) (hM : ag fS_X9_drift M0 M)  : Fr fS_X9_drift M0 rMW (f_X9_drift_b75 F a0 k19 k27 x2 x3 x4 s0 s1 M) := by
  unfold f_X9_drift_b75
  refine fr_lt (fun w10 => ?_)
  refine fr_ite ?_ ?_
  · refine fr_ite ?_ ?_
    · refine fr_ck ?_
      refine fr_ltM hM (by decide) (fun N11 hN11 => ?_)
      exact hk27 _ _ _ _ hN11
    · refine fr_ck ?_
      refine fr_ltM hM (by decide) (fun N12 hN12 => ?_)
      exact hk27 _ _ _ _ hN12
  · refine fr_ck ?_
    refine fr_ltM hM (by decide) (fun N13 hN13 => ?_)
    exact hk27 _ _ _ _ hN13

theorem fr_X9_drift_h27_b (F : Nat) (a0 : Int32) (k19 : Int32 → Int32 → gM → Option (Int32 × gM)) {M0 : gM} (hk19 : ∀ (x2 : Int32) (x3 : Int32) (M : gM) (hM : ag fS_X9_drift M0 M) , Fr fS_X9_drift M0 rMW (k19 x2 x3 M)) (k27 : Int32 → Int32 → Int32 → gM → Option (Int32 × gM)) (hk27 : ∀ (x2 : Int32) (x3 : Int32) (x4 : Int32) (M : gM) (hM : ag fS_X9_drift M0 M) , Fr fS_X9_drift M0 rMW (k27 x2 x3 x4 M)) (x2 : Int32) (x3 : Int32) (x4 : Int32) (M : gM) (hM : ag fS_X9_drift M0 M)  : Fr fS_X9_drift M0 rMW (f_X9_drift_h27_b F a0 k19 k27 x2 x3 x4 M) := by
  unfold f_X9_drift_h27_b
  refine fr_ck ?_
  refine fr_ite ?_ ?_
  · refine fr_bindW (fr_sub (fr_X9_pass _ _) (by decide)) hM (fun r14 hr14 => ?_)
    refine fr_lt (fun w15 => ?_)
    exact hk19 _ _ _ hr14
  · refine fr_bindW (fr_sub (fr_X9_draw _ _) (by decide)) hM (fun r16 hr16 => ?_)
    refine fr_lt (fun w17 => ?_)
    refine fr_ck ?_
    refine fr_ite ?_ ?_
    · exact fr_X9_drift_b75 _ _ _ _ hk19 hk27 _ _ _ _ _ _ hr16
    · refine fr_ite ?_ ?_
      · exact fr_X9_drift_b75 _ _ _ _ hk19 hk27 _ _ _ _ _ _ hr16
      · exact fr_X9_drift_b75 _ _ _ _ hk19 hk27 _ _ _ _ _ _ hr16

theorem fr_X9_drift_h27 (F : Nat) (a0 : Int32) (k19 : Int32 → Int32 → gM → Option (Int32 × gM)) {M0 : gM} (hk19 : ∀ (x2 : Int32) (x3 : Int32) (M : gM) (hM : ag fS_X9_drift M0 M) , Fr fS_X9_drift M0 rMW (k19 x2 x3 M)) : ∀ (n : Nat) (x2 : Int32) (x3 : Int32) (x4 : Int32) (M : gM) (hM : ag fS_X9_drift M0 M) , Fr fS_X9_drift M0 rMW (f_X9_drift_h27 F a0 k19 n x2 x3 x4 M) := by
  intro n
  induction n with
  | zero =>
    intro x2 x3 x4 M hM  r hr
    have hr2 : (none : Option (Int32 × gM)) = some r := hr
    cases hr2
  | succ n ih =>
    intro x2 x3 x4 M hM 
    exact fr_X9_drift_h27_b _ _ _ hk19 _ ih x2 x3 x4 M hM 
theorem fr_X9_drift_h19_b (F : Nat) (a0 : Int32)  {M0 : gM}  (k19 : Int32 → Int32 → gM → Option (Int32 × gM)) (hk19 : ∀ (x2 : Int32) (x3 : Int32) (M : gM) (hM : ag fS_X9_drift M0 M) , Fr fS_X9_drift M0 rMW (k19 x2 x3 M)) (x2 : Int32) (x3 : Int32) (M : gM) (hM : ag fS_X9_drift M0 M)  : Fr fS_X9_drift M0 rMW (f_X9_drift_h19_b F a0  k19 x2 x3 M) := by
  unfold f_X9_drift_h19_b
  refine fr_ite ?_ ?_
  · first | exact fr_some hM | exact fr_ck (fr_some hM)
  · exact fr_X9_drift_h27 _ _ _ hk19 _ _ _ _ _ hM

theorem fr_X9_drift_h19 (F : Nat) (a0 : Int32)  {M0 : gM}  : ∀ (n : Nat) (x2 : Int32) (x3 : Int32) (M : gM) (hM : ag fS_X9_drift M0 M) , Fr fS_X9_drift M0 rMW (f_X9_drift_h19 F a0  n x2 x3 M) := by
  intro n
  induction n with
  | zero =>
    intro x2 x3 M hM  r hr
    have hr2 : (none : Option (Int32 × gM)) = some r := hr
    cases hr2
  | succ n ih =>
    intro x2 x3 M hM 
    exact fr_X9_drift_h19_b _ _   _ ih x2 x3 M hM 
theorem fr_X9_drift (F : Nat) (a0 : Int32) (M : gM) : Fr fS_X9_drift M rMW (f_X9_drift F a0 M) := by
  unfold f_X9_drift
  refine fr_bind (fun r18 => ?_)
  refine fr_ite ?_ ?_
  · first | exact fr_some ag_rf | exact fr_ck (fr_some ag_rf)
  · exact fr_X9_drift_h19 _ _ _ _ _ _ ag_rf

abbrev fS_X9_feed  : List Nat := [95, 109]
theorem fr_X9_feed_h35_b (F : Nat) (a0 : Int32) (a1 : Int64)  {M0 : gM}  (k35 : Int32 → gM → Option (Int32 × gM)) (hk35 : ∀ (x4 : Int32) (M : gM) (hM : ag fS_X9_feed M0 M) , Fr fS_X9_feed M0 rMW (k35 x4 M)) (x4 : Int32) (M : gM) (hM : ag fS_X9_feed M0 M)  : Fr fS_X9_feed M0 rMW (f_X9_feed_h35_b F a0 a1  k35 x4 M) := by
  unfold f_X9_feed_h35_b
  refine fr_ite ?_ ?_
  · first | exact fr_some hM | exact fr_ck (fr_some hM)
  · refine fr_ck ?_
    refine fr_ltM hM (by decide) (fun N5 hN5 => ?_)
    refine fr_ltM hN5 (by decide) (fun N6 hN6 => ?_)
    exact hk35 _ _ hN6

theorem fr_X9_feed_h35 (F : Nat) (a0 : Int32) (a1 : Int64)  {M0 : gM}  : ∀ (n : Nat) (x4 : Int32) (M : gM) (hM : ag fS_X9_feed M0 M) , Fr fS_X9_feed M0 rMW (f_X9_feed_h35 F a0 a1  n x4 M) := by
  intro n
  induction n with
  | zero =>
    intro x4 M hM  r hr
    have hr2 : (none : Option (Int32 × gM)) = some r := hr
    cases hr2
  | succ n ih =>
    intro x4 M hM 
    exact fr_X9_feed_h35_b _ _ _   _ ih x4 M hM 
theorem fr_X9_feed (F : Nat) (a0 : Int32) (a1 : Int64) (M : gM) : Fr fS_X9_feed M rMW (f_X9_feed F a0 a1 M) := by
  unfold f_X9_feed
  refine fr_bind (fun r7 => ?_)
  refine fr_ite ?_ ?_
  · first | exact fr_some ag_rf | exact fr_ck (fr_some ag_rf)
  · refine fr_ite ?_ ?_
    · refine fr_lt (fun w8 => ?_)
      exact fr_X9_feed_h35 _ _ _ _ _ _ ag_rf
    · first | exact fr_some ag_rf | exact fr_ck (fr_some ag_rf)

abbrev fS_X9_findLooks  : List Nat := [95, 110]
theorem fr_X9_findLooks_b75 (F : Nat) (k7 : Int32 → gM → Option gM) (k19 : Int32 → Int32 → gM → Option gM) (k31 : Int32 → Int32 → Int32 → gM → Option gM) {M0 : gM} (hk7 : ∀ (x1 : Int32) (M : gM) (hM : ag fS_X9_findLooks M0 M) , Fr fS_X9_findLooks M0 rMV (k7 x1 M)) (hk19 : ∀ (x1 : Int32) (x2 : Int32) (M : gM) (hM : ag fS_X9_findLooks M0 M) , Fr fS_X9_findLooks M0 rMV (k19 x1 x2 M)) (hk31 : ∀ (x1 : Int32) (x2 : Int32) (x3 : Int32) (M : gM) (hM : ag fS_X9_findLooks M0 M) , Fr fS_X9_findLooks M0 rMV (k31 x1 x2 x3 M)) (x1 : Int32) (x2 : Int32) (x3 : Int32) (s0 : Int32) (M : gM) (hM : ag fS_X9_findLooks M0 M)  : Fr fS_X9_findLooks M0 rMV (f_X9_findLooks_b75 F k7 k19 k31 x1 x2 x3 s0 M) := by
  unfold f_X9_findLooks_b75
  refine fr_ite ?_ ?_
  · exact hk31 _ _ _ _ hM
  · refine fr_ck ?_
    refine fr_bind (fun r7 => ?_)
    refine fr_ite ?_ ?_
    · refine fr_ck ?_
      refine fr_bind (fun r8 => ?_)
      refine fr_ite ?_ ?_
      · refine fr_ck ?_
        refine fr_bind (fun r9 => ?_)
        refine fr_ite ?_ ?_
        · refine fr_ck ?_
          refine fr_ltM hM (by decide) (fun N10 hN10 => ?_)
          refine fr_ltM hN10 (by decide) (fun N11 hN11 => ?_)
          exact hk31 _ _ _ _ hN11
        · exact hk31 _ _ _ _ hM
      · exact hk31 _ _ _ _ hM
    · exact hk31 _ _ _ _ hM

theorem fr_X9_findLooks_b74 (F : Nat) (k7 : Int32 → gM → Option gM) (k19 : Int32 → Int32 → gM → Option gM) (k31 : Int32 → Int32 → Int32 → gM → Option gM) {M0 : gM} (hk7 : ∀ (x1 : Int32) (M : gM) (hM : ag fS_X9_findLooks M0 M) , Fr fS_X9_findLooks M0 rMV (k7 x1 M)) (hk19 : ∀ (x1 : Int32) (x2 : Int32) (M : gM) (hM : ag fS_X9_findLooks M0 M) , Fr fS_X9_findLooks M0 rMV (k19 x1 x2 M)) (hk31 : ∀ (x1 : Int32) (x2 : Int32) (x3 : Int32) (M : gM) (hM : ag fS_X9_findLooks M0 M) , Fr fS_X9_findLooks M0 rMV (k31 x1 x2 x3 M)) (x1 : Int32) (x2 : Int32) (x3 : Int32) (M : gM) (hM : ag fS_X9_findLooks M0 M)  : Fr fS_X9_findLooks M0 rMV (f_X9_findLooks_b74 F k7 k19 k31 x1 x2 x3 M) := by
  unfold f_X9_findLooks_b74
  exact fr_X9_findLooks_b75 _ _ _ _ hk7 hk19 hk31 _ _ _ _ _ hM

theorem fr_X9_findLooks_h31_b (F : Nat) (k7 : Int32 → gM → Option gM) (k19 : Int32 → Int32 → gM → Option gM) {M0 : gM} (hk7 : ∀ (x1 : Int32) (M : gM) (hM : ag fS_X9_findLooks M0 M) , Fr fS_X9_findLooks M0 rMV (k7 x1 M)) (hk19 : ∀ (x1 : Int32) (x2 : Int32) (M : gM) (hM : ag fS_X9_findLooks M0 M) , Fr fS_X9_findLooks M0 rMV (k19 x1 x2 M)) (k31 : Int32 → Int32 → Int32 → gM → Option gM) (hk31 : ∀ (x1 : Int32) (x2 : Int32) (x3 : Int32) (M : gM) (hM : ag fS_X9_findLooks M0 M) , Fr fS_X9_findLooks M0 rMV (k31 x1 x2 x3 M)) (x1 : Int32) (x2 : Int32) (x3 : Int32) (M : gM) (hM : ag fS_X9_findLooks M0 M)  : Fr fS_X9_findLooks M0 rMV (f_X9_findLooks_h31_b F k7 k19 k31 x1 x2 x3 M) := by
  unfold f_X9_findLooks_h31_b
  refine fr_ck ?_
  refine fr_ite ?_ ?_
  · exact hk19 _ _ _ hM
  · refine fr_ck ?_
    refine fr_ite ?_ ?_
    · refine fr_ck ?_
      refine fr_ite ?_ ?_
      · refine fr_ck ?_
        refine fr_ite ?_ ?_
        · exact fr_X9_findLooks_b75 _ _ _ _ hk7 hk19 hk31 _ _ _ _ _ hM
        · exact fr_X9_findLooks_b74 _ _ _ _ hk7 hk19 hk31 _ _ _ _ hM
      · exact fr_X9_findLooks_b74 _ _ _ _ hk7 hk19 hk31 _ _ _ _ hM
    · exact fr_X9_findLooks_b74 _ _ _ _ hk7 hk19 hk31 _ _ _ _ hM

theorem fr_X9_findLooks_h31 (F : Nat) (k7 : Int32 → gM → Option gM) (k19 : Int32 → Int32 → gM → Option gM) {M0 : gM} (hk7 : ∀ (x1 : Int32) (M : gM) (hM : ag fS_X9_findLooks M0 M) , Fr fS_X9_findLooks M0 rMV (k7 x1 M)) (hk19 : ∀ (x1 : Int32) (x2 : Int32) (M : gM) (hM : ag fS_X9_findLooks M0 M) , Fr fS_X9_findLooks M0 rMV (k19 x1 x2 M)) : ∀ (n : Nat) (x1 : Int32) (x2 : Int32) (x3 : Int32) (M : gM) (hM : ag fS_X9_findLooks M0 M) , Fr fS_X9_findLooks M0 rMV (f_X9_findLooks_h31 F k7 k19 n x1 x2 x3 M) := by
  intro n
  induction n with
  | zero =>
    intro x1 x2 x3 M hM  r hr
    have hr2 : (none : Option gM) = some r := hr
    cases hr2
  | succ n ih =>
    intro x1 x2 x3 M hM 
    exact fr_X9_findLooks_h31_b _ _ _ hk7 hk19 _ ih x1 x2 x3 M hM 
theorem fr_X9_findLooks_h19_b (F : Nat) (k7 : Int32 → gM → Option gM) {M0 : gM} (hk7 : ∀ (x1 : Int32) (M : gM) (hM : ag fS_X9_findLooks M0 M) , Fr fS_X9_findLooks M0 rMV (k7 x1 M)) (k19 : Int32 → Int32 → gM → Option gM) (hk19 : ∀ (x1 : Int32) (x2 : Int32) (M : gM) (hM : ag fS_X9_findLooks M0 M) , Fr fS_X9_findLooks M0 rMV (k19 x1 x2 M)) (x1 : Int32) (x2 : Int32) (M : gM) (hM : ag fS_X9_findLooks M0 M)  : Fr fS_X9_findLooks M0 rMV (f_X9_findLooks_h19_b F k7 k19 x1 x2 M) := by
  unfold f_X9_findLooks_h19_b
  refine fr_ck ?_
  refine fr_ite ?_ ?_
  · exact hk7 _ _ hM
  · exact fr_X9_findLooks_h31 _ _ _ hk7 hk19 _ _ _ _ _ hM

theorem fr_X9_findLooks_h19 (F : Nat) (k7 : Int32 → gM → Option gM) {M0 : gM} (hk7 : ∀ (x1 : Int32) (M : gM) (hM : ag fS_X9_findLooks M0 M) , Fr fS_X9_findLooks M0 rMV (k7 x1 M)) : ∀ (n : Nat) (x1 : Int32) (x2 : Int32) (M : gM) (hM : ag fS_X9_findLooks M0 M) , Fr fS_X9_findLooks M0 rMV (f_X9_findLooks_h19 F k7 n x1 x2 M) := by
  intro n
  induction n with
  | zero =>
    intro x1 x2 M hM  r hr
    have hr2 : (none : Option gM) = some r := hr
    cases hr2
  | succ n ih =>
    intro x1 x2 M hM 
    exact fr_X9_findLooks_h19_b _ _ hk7 _ ih x1 x2 M hM 
theorem fr_X9_findLooks_h7_b (F : Nat)  {M0 : gM}  (k7 : Int32 → gM → Option gM) (hk7 : ∀ (x1 : Int32) (M : gM) (hM : ag fS_X9_findLooks M0 M) , Fr fS_X9_findLooks M0 rMV (k7 x1 M)) (x1 : Int32) (M : gM) (hM : ag fS_X9_findLooks M0 M)  : Fr fS_X9_findLooks M0 rMV (f_X9_findLooks_h7_b F  k7 x1 M) := by
  unfold f_X9_findLooks_h7_b
  refine fr_ck ?_
  refine fr_ite ?_ ?_
  · exact fr_some hM
  · exact fr_X9_findLooks_h19 _ _ hk7 _ _ _ _ hM

theorem fr_X9_findLooks_h7 (F : Nat)  {M0 : gM}  : ∀ (n : Nat) (x1 : Int32) (M : gM) (hM : ag fS_X9_findLooks M0 M) , Fr fS_X9_findLooks M0 rMV (f_X9_findLooks_h7 F  n x1 M) := by
  intro n
  induction n with
  | zero =>
    intro x1 M hM  r hr
    have hr2 : (none : Option gM) = some r := hr
    cases hr2
  | succ n ih =>
    intro x1 M hM 
    exact fr_X9_findLooks_h7_b _   _ ih x1 M hM 
theorem fr_X9_findLooks (F : Nat) (M : gM) : Fr fS_X9_findLooks M rMV (f_X9_findLooks F M) := by
  unfold f_X9_findLooks
  refine fr_ltM ag_rf (by decide) (fun N12 hN12 => ?_)
  exact fr_X9_findLooks_h7 _ _ _ _ hN12

abbrev fS_X9_goBack  : List Nat := [96]
theorem fr_X9_goBack (F : Nat) (a0 : Int32) (M : gM) : Fr fS_X9_goBack M rMW (f_X9_goBack F a0 M) := by
  unfold f_X9_goBack
  refine fr_bind (fun r3 => ?_)
  refine fr_ite ?_ ?_
  · first | exact fr_some ag_rf | exact fr_ck (fr_some ag_rf)
  · refine fr_ck ?_
    refine fr_ite ?_ ?_
    · first | exact fr_some ag_rf | exact fr_ck (fr_some ag_rf)
    · refine fr_bindV (fr_sub (fr_X9_copy _ _ _ _) (by decide)) ag_rf (fun r4 hr4 => ?_)
      first | exact fr_some hr4 | exact fr_ck (fr_some hr4)

abbrev fS_X9_grow  : List Nat := [96]
theorem fr_X9_grow_h46_b (F : Nat) (a0 : Int32) (k32 : Int32 → Int32 → Int32 → Int32 → gM → Option (Int32 × gM)) {M0 : gM} (hk32 : ∀ (x2 : Int32) (x3 : Int32) (x4 : Int32) (x5 : Int32) (M : gM) (hM : ag fS_X9_grow M0 M) , Fr fS_X9_grow M0 rMW (k32 x2 x3 x4 x5 M)) (k46 : Int32 → Int32 → Int32 → Int32 → Int32 → gM → Option (Int32 × gM)) (hk46 : ∀ (x2 : Int32) (x3 : Int32) (x4 : Int32) (x5 : Int32) (x6 : Int32) (M : gM) (hM : ag fS_X9_grow M0 M) , Fr fS_X9_grow M0 rMW (k46 x2 x3 x4 x5 x6 M)) (x2 : Int32) (x3 : Int32) (x4 : Int32) (x5 : Int32) (x6 : Int32) (M : gM) (hM : ag fS_X9_grow M0 M)  : Fr fS_X9_grow M0 rMW (f_X9_grow_h46_b F a0 k32 k46 x2 x3 x4 x5 x6 M) := by
  unfold f_X9_grow_h46_b
  refine fr_ite ?_ ?_
  · refine fr_ck ?_
    refine fr_ck ?_
    refine fr_ltM hM (by decide) (fun N7 hN7 => ?_)
    exact hk32 _ _ _ _ _ hN7
  · refine fr_ck ?_
    refine fr_ltM hM (by decide) (fun N8 hN8 => ?_)
    refine fr_bind (fun r9 => ?_)
    refine fr_bind (fun r10 => ?_)
    refine fr_ite ?_ ?_
    · exact hk46 _ _ _ _ _ _ hN8
    · exact hk46 _ _ _ _ _ _ hN8

theorem fr_X9_grow_h46 (F : Nat) (a0 : Int32) (k32 : Int32 → Int32 → Int32 → Int32 → gM → Option (Int32 × gM)) {M0 : gM} (hk32 : ∀ (x2 : Int32) (x3 : Int32) (x4 : Int32) (x5 : Int32) (M : gM) (hM : ag fS_X9_grow M0 M) , Fr fS_X9_grow M0 rMW (k32 x2 x3 x4 x5 M)) : ∀ (n : Nat) (x2 : Int32) (x3 : Int32) (x4 : Int32) (x5 : Int32) (x6 : Int32) (M : gM) (hM : ag fS_X9_grow M0 M) , Fr fS_X9_grow M0 rMW (f_X9_grow_h46 F a0 k32 n x2 x3 x4 x5 x6 M) := by
  intro n
  induction n with
  | zero =>
    intro x2 x3 x4 x5 x6 M hM  r hr
    have hr2 : (none : Option (Int32 × gM)) = some r := hr
    cases hr2
  | succ n ih =>
    intro x2 x3 x4 x5 x6 M hM 
    exact fr_X9_grow_h46_b _ _ _ hk32 _ ih x2 x3 x4 x5 x6 M hM 
theorem fr_X9_grow_h32_b (F : Nat) (a0 : Int32)  {M0 : gM}  (k32 : Int32 → Int32 → Int32 → Int32 → gM → Option (Int32 × gM)) (hk32 : ∀ (x2 : Int32) (x3 : Int32) (x4 : Int32) (x5 : Int32) (M : gM) (hM : ag fS_X9_grow M0 M) , Fr fS_X9_grow M0 rMW (k32 x2 x3 x4 x5 M)) (x2 : Int32) (x3 : Int32) (x4 : Int32) (x5 : Int32) (M : gM) (hM : ag fS_X9_grow M0 M)  : Fr fS_X9_grow M0 rMW (f_X9_grow_h32_b F a0  k32 x2 x3 x4 x5 M) := by
  unfold f_X9_grow_h32_b
  refine fr_ck ?_
  refine fr_ite ?_ ?_
  · refine fr_ite ?_ ?_
    · refine fr_ite ?_ ?_
      · first | exact fr_some hM | exact fr_ck (fr_some hM)
      · refine fr_ite ?_ ?_
        · first | exact fr_some hM | exact fr_ck (fr_some hM)
        · first | exact fr_some hM | exact fr_ck (fr_some hM)
    · first | exact fr_some hM | exact fr_ck (fr_some hM)
  · exact fr_X9_grow_h46 _ _ _ hk32 _ _ _ _ _ _ _ hM

theorem fr_X9_grow_h32 (F : Nat) (a0 : Int32)  {M0 : gM}  : ∀ (n : Nat) (x2 : Int32) (x3 : Int32) (x4 : Int32) (x5 : Int32) (M : gM) (hM : ag fS_X9_grow M0 M) , Fr fS_X9_grow M0 rMW (f_X9_grow_h32 F a0  n x2 x3 x4 x5 M) := by
  intro n
  induction n with
  | zero =>
    intro x2 x3 x4 x5 M hM  r hr
    have hr2 : (none : Option (Int32 × gM)) = some r := hr
    cases hr2
  | succ n ih =>
    intro x2 x3 x4 x5 M hM 
    exact fr_X9_grow_h32_b _ _   _ ih x2 x3 x4 x5 M hM 
theorem fr_X9_grow (F : Nat) (a0 : Int32) (M : gM) : Fr fS_X9_grow M rMW (f_X9_grow F a0 M) := by
  unfold f_X9_grow
  refine fr_bind (fun r11 => ?_)
  refine fr_ite ?_ ?_
  · first | exact fr_some ag_rf | exact fr_ck (fr_some ag_rf)
  · refine fr_bindV (fr_sub (fr_X9_copy _ _ _ _) (by decide)) ag_rf (fun r12 hr12 => ?_)
    exact fr_X9_grow_h32 _ _ _ _ _ _ _ _ hr12

abbrev fS_X9_here  : List Nat := [95]
theorem fr_X9_here_b38 (F : Nat)  {M0 : gM}   (M : gM) (hM : ag fS_X9_here M0 M)  : Fr fS_X9_here M0 rMW (f_X9_here_b38 F   M) := by
  unfold f_X9_here_b38
  refine fr_ite ?_ ?_
  · first | exact fr_some hM | exact fr_ck (fr_some hM)
  · refine fr_ck ?_
    first | exact fr_some hM | exact fr_ck (fr_some hM)

theorem fr_X9_here_h0_b (F : Nat)  {M0 : gM}  (k0 : gM → Option (Int32 × gM)) (hk0 : ∀  (M : gM) (hM : ag fS_X9_here M0 M) , Fr fS_X9_here M0 rMW (k0  M))  (M : gM) (hM : ag fS_X9_here M0 M)  : Fr fS_X9_here M0 rMW (f_X9_here_h0_b F  k0  M) := by
  unfold f_X9_here_h0_b
  refine fr_ite ?_ ?_
  · exact fr_X9_here_b38 _ _ hM
  · refine fr_ck ?_
    refine fr_ite ?_ ?_
    · refine fr_ltM hM (by decide) (fun N2 hN2 => ?_)
      exact hk0 _ hN2
    · exact fr_X9_here_b38 _ _ hM

theorem fr_X9_here_h0 (F : Nat)  {M0 : gM}  : ∀ (n : Nat)  (M : gM) (hM : ag fS_X9_here M0 M) , Fr fS_X9_here M0 rMW (f_X9_here_h0 F  n  M) := by
  intro n
  induction n with
  | zero =>
    intro  M hM  r hr
    have hr2 : (none : Option (Int32 × gM)) = some r := hr
    cases hr2
  | succ n ih =>
    intro  M hM 
    exact fr_X9_here_h0_b _   _ ih  M hM 
theorem fr_X9_here (F : Nat) (M : gM) : Fr fS_X9_here M rMW (f_X9_here F M) := by
  unfold f_X9_here
  exact fr_X9_here_h0 _ _ _ ag_rf

abbrev fS_X9_keep  : List Nat := [96, 97]
theorem fr_X9_keep (F : Nat) (a0 : Int32) (M : gM) : Fr fS_X9_keep M rMW (f_X9_keep F a0 M) := by
  unfold f_X9_keep
  refine fr_bind (fun r4 => ?_)
  refine fr_ite ?_ ?_
  · first | exact fr_some ag_rf | exact fr_ck (fr_some ag_rf)
  · refine fr_bindV (fr_sub (fr_X9_copy _ _ _ _) (by decide)) ag_rf (fun r5 hr5 => ?_)
    refine fr_ck ?_
    refine fr_ltM hr5 (by decide) (fun N6 hN6 => ?_)
    first | exact fr_some hN6 | exact fr_ck (fr_some hN6)

abbrev fS_X9_law  : List Nat := [96]
theorem fr_X9_law (a0 : Int32) (M : gM) : Fr fS_X9_law M rMW (f_X9_law a0 M) := by
  unfold f_X9_law
  refine fr_bind (fun r4 => ?_)
  refine fr_ite ?_ ?_
  · first | exact fr_some ag_rf | exact fr_ck (fr_some ag_rf)
  · refine fr_ck ?_
    refine fr_lt (fun w5 => ?_)
    refine fr_ck ?_
    refine fr_ltM ag_rf (by decide) (fun N6 hN6 => ?_)
    first | exact fr_some hN6 | exact fr_ck (fr_some hN6)

abbrev fS_X9_price  : List Nat := [96]
theorem fr_X9_price (a0 : Int32) (a1 : Int32) (M : gM) : Fr fS_X9_price M rMW (f_X9_price a0 a1 M) := by
  unfold f_X9_price
  refine fr_bind (fun r5 => ?_)
  refine fr_ite ?_ ?_
  · first | exact fr_some ag_rf | exact fr_ck (fr_some ag_rf)
  · refine fr_bind (fun r6 => ?_)
    refine fr_ite ?_ ?_
    · first | exact fr_some ag_rf | exact fr_ck (fr_some ag_rf)
    · refine fr_ck ?_
      refine fr_lt (fun w7 => ?_)
      refine fr_ck ?_
      refine fr_ltM ag_rf (by decide) (fun N8 hN8 => ?_)
      first | exact fr_some hN8 | exact fr_ck (fr_some hN8)

abbrev fS_X9_rentIn  : List Nat := [112, 115]
theorem fr_X9_rentIn_h38_b (F : Nat) (a0 : Int32) (a1 : Int32) (k28 : Int32 → Int32 → gM → Option (Int32 × gM)) {M0 : gM} (hk28 : ∀ (x3 : Int32) (x4 : Int32) (M : gM) (hM : ag fS_X9_rentIn M0 M) , Fr fS_X9_rentIn M0 rMW (k28 x3 x4 M)) (k38 : Int32 → Int32 → Int32 → gM → Option (Int32 × gM)) (hk38 : ∀ (x3 : Int32) (x4 : Int32) (x5 : Int32) (M : gM) (hM : ag fS_X9_rentIn M0 M) , Fr fS_X9_rentIn M0 rMW (k38 x3 x4 x5 M)) (x3 : Int32) (x4 : Int32) (x5 : Int32) (M : gM) (hM : ag fS_X9_rentIn M0 M)  : Fr fS_X9_rentIn M0 rMW (f_X9_rentIn_h38_b F a0 a1 k28 k38 x3 x4 x5 M) := by
  unfold f_X9_rentIn_h38_b
  refine fr_ck ?_
  refine fr_ite ?_ ?_
  · exact hk28 _ _ _ hM
  · refine fr_ck ?_
    refine fr_bind (fun r7 => ?_)
    refine fr_ite ?_ ?_
    · refine fr_lt (fun w8 => ?_)
      exact hk38 _ _ _ _ hM
    · refine fr_ck ?_
      refine fr_ite ?_ ?_
      · refine fr_ck ?_
        refine fr_lt (fun w10 => ?_)
        exact hk38 _ _ _ _ hM
      · refine fr_lt (fun w9 => ?_)
        exact hk38 _ _ _ _ hM

theorem fr_X9_rentIn_h38 (F : Nat) (a0 : Int32) (a1 : Int32) (k28 : Int32 → Int32 → gM → Option (Int32 × gM)) {M0 : gM} (hk28 : ∀ (x3 : Int32) (x4 : Int32) (M : gM) (hM : ag fS_X9_rentIn M0 M) , Fr fS_X9_rentIn M0 rMW (k28 x3 x4 M)) : ∀ (n : Nat) (x3 : Int32) (x4 : Int32) (x5 : Int32) (M : gM) (hM : ag fS_X9_rentIn M0 M) , Fr fS_X9_rentIn M0 rMW (f_X9_rentIn_h38 F a0 a1 k28 n x3 x4 x5 M) := by
  intro n
  induction n with
  | zero =>
    intro x3 x4 x5 M hM  r hr
    have hr2 : (none : Option (Int32 × gM)) = some r := hr
    cases hr2
  | succ n ih =>
    intro x3 x4 x5 M hM 
    exact fr_X9_rentIn_h38_b _ _ _ _ hk28 _ ih x3 x4 x5 M hM 
theorem fr_X9_rentIn_h28_b (F : Nat) (a0 : Int32) (a1 : Int32)  {M0 : gM}  (k28 : Int32 → Int32 → gM → Option (Int32 × gM)) (hk28 : ∀ (x3 : Int32) (x4 : Int32) (M : gM) (hM : ag fS_X9_rentIn M0 M) , Fr fS_X9_rentIn M0 rMW (k28 x3 x4 M)) (x3 : Int32) (x4 : Int32) (M : gM) (hM : ag fS_X9_rentIn M0 M)  : Fr fS_X9_rentIn M0 rMW (f_X9_rentIn_h28_b F a0 a1  k28 x3 x4 M) := by
  unfold f_X9_rentIn_h28_b
  refine fr_ite ?_ ?_
  · first | exact fr_some hM | exact fr_ck (fr_some hM)
  · exact fr_X9_rentIn_h38 _ _ _ _ hk28 _ _ _ _ _ hM

theorem fr_X9_rentIn_h28 (F : Nat) (a0 : Int32) (a1 : Int32)  {M0 : gM}  : ∀ (n : Nat) (x3 : Int32) (x4 : Int32) (M : gM) (hM : ag fS_X9_rentIn M0 M) , Fr fS_X9_rentIn M0 rMW (f_X9_rentIn_h28 F a0 a1  n x3 x4 M) := by
  intro n
  induction n with
  | zero =>
    intro x3 x4 M hM  r hr
    have hr2 : (none : Option (Int32 × gM)) = some r := hr
    cases hr2
  | succ n ih =>
    intro x3 x4 M hM 
    exact fr_X9_rentIn_h28_b _ _ _   _ ih x3 x4 M hM 
theorem fr_X9_rentIn (F : Nat) (a0 : Int32) (a1 : Int32) (M : gM) : Fr fS_X9_rentIn M rMW (f_X9_rentIn F a0 a1 M) := by
  unfold f_X9_rentIn
  refine fr_bindV (fr_sub (fr_X9_findLeast _ _ _) (by decide)) ag_rf (fun r11 hr11 => ?_)
  refine fr_ck ?_
  refine fr_ite ?_ ?_
  · refine fr_bindV (fr_sub (fr_X9_findWorn _ _ _) (by decide)) hr11 (fun r12 hr12 => ?_)
    exact fr_X9_rentIn_h28 _ _ _ _ _ _ _ hr12
  · first | exact fr_some hr11 | exact fr_ck (fr_some hr11)

abbrev fS_X9_raise  : List Nat := [96, 111, 112, 113, 114, 115]
theorem fr_X9_raise_b93 (F : Nat) (a0 : Int32) (a1 : Int32) (k38 : Int32 → Int32 → Int32 → gM → Option (Int32 × gM)) (k55 : Int32 → Int32 → Int32 → Int32 → gM → Option (Int32 × gM)) {M0 : gM} (hk38 : ∀ (x3 : Int32) (x4 : Int32) (x5 : Int32) (M : gM) (hM : ag fS_X9_raise M0 M) , Fr fS_X9_raise M0 rMW (k38 x3 x4 x5 M)) (hk55 : ∀ (x3 : Int32) (x4 : Int32) (x5 : Int32) (x6 : Int32) (M : gM) (hM : ag fS_X9_raise M0 M) , Fr fS_X9_raise M0 rMW (k55 x3 x4 x5 x6 M)) (x3 : Int32) (x4 : Int32) (x5 : Int32) (x6 : Int32) (s0 : Int32) (s1 : Int32) (M : gM) (hM : ag fS_X9_raise M0 M)  : Fr fS_X9_raise M0 rMW (f_X9_raise_b93 F a0 a1 k38 k55 x3 x4 x5 x6 s0 s1 M) := by
  unfold f_X9_raise_b93
  refine fr_lt (fun w10 => ?_)
  refine fr_ite ?_ ?_
  · refine fr_ck ?_
    refine fr_ltM hM (by decide) (fun N11 hN11 => ?_)
    exact hk55 _ _ _ _ _ hN11
  · refine fr_ck ?_
    refine fr_ltM hM (by decide) (fun N12 hN12 => ?_)
    exact hk55 _ _ _ _ _ hN12

theorem fr_X9_raise_h55_b (F : Nat) (a0 : Int32) (a1 : Int32) (k38 : Int32 → Int32 → Int32 → gM → Option (Int32 × gM)) {M0 : gM} (hk38 : ∀ (x3 : Int32) (x4 : Int32) (x5 : Int32) (M : gM) (hM : ag fS_X9_raise M0 M) , Fr fS_X9_raise M0 rMW (k38 x3 x4 x5 M)) (k55 : Int32 → Int32 → Int32 → Int32 → gM → Option (Int32 × gM)) (hk55 : ∀ (x3 : Int32) (x4 : Int32) (x5 : Int32) (x6 : Int32) (M : gM) (hM : ag fS_X9_raise M0 M) , Fr fS_X9_raise M0 rMW (k55 x3 x4 x5 x6 M)) (x3 : Int32) (x4 : Int32) (x5 : Int32) (x6 : Int32) (M : gM) (hM : ag fS_X9_raise M0 M)  : Fr fS_X9_raise M0 rMW (f_X9_raise_h55_b F a0 a1 k38 k55 x3 x4 x5 x6 M) := by
  unfold f_X9_raise_h55_b
  refine fr_ck ?_
  refine fr_ite ?_ ?_
  · refine fr_bindW (fr_sub (fr_X9_rentIn _ _ _ _) (by decide)) hM (fun r13 hr13 => ?_)
    refine fr_lt (fun w14 => ?_)
    refine fr_ite ?_ ?_
    · exact hk38 _ _ _ _ hr13
    · exact hk38 _ _ _ _ hr13
  · refine fr_ck ?_
    refine fr_ck ?_
    refine fr_ite ?_ ?_
    · exact fr_X9_raise_b93 _ _ _ _ _ hk38 hk55 _ _ _ _ _ _ _ hM
    · exact fr_X9_raise_b93 _ _ _ _ _ hk38 hk55 _ _ _ _ _ _ _ hM

theorem fr_X9_raise_h55 (F : Nat) (a0 : Int32) (a1 : Int32) (k38 : Int32 → Int32 → Int32 → gM → Option (Int32 × gM)) {M0 : gM} (hk38 : ∀ (x3 : Int32) (x4 : Int32) (x5 : Int32) (M : gM) (hM : ag fS_X9_raise M0 M) , Fr fS_X9_raise M0 rMW (k38 x3 x4 x5 M)) : ∀ (n : Nat) (x3 : Int32) (x4 : Int32) (x5 : Int32) (x6 : Int32) (M : gM) (hM : ag fS_X9_raise M0 M) , Fr fS_X9_raise M0 rMW (f_X9_raise_h55 F a0 a1 k38 n x3 x4 x5 x6 M) := by
  intro n
  induction n with
  | zero =>
    intro x3 x4 x5 x6 M hM  r hr
    have hr2 : (none : Option (Int32 × gM)) = some r := hr
    cases hr2
  | succ n ih =>
    intro x3 x4 x5 x6 M hM 
    exact fr_X9_raise_h55_b _ _ _ _ hk38 _ ih x3 x4 x5 x6 M hM 
theorem fr_X9_raise_h38_b (F : Nat) (a0 : Int32) (a1 : Int32)  {M0 : gM}  (k38 : Int32 → Int32 → Int32 → gM → Option (Int32 × gM)) (hk38 : ∀ (x3 : Int32) (x4 : Int32) (x5 : Int32) (M : gM) (hM : ag fS_X9_raise M0 M) , Fr fS_X9_raise M0 rMW (k38 x3 x4 x5 M)) (x3 : Int32) (x4 : Int32) (x5 : Int32) (M : gM) (hM : ag fS_X9_raise M0 M)  : Fr fS_X9_raise M0 rMW (f_X9_raise_h38_b F a0 a1  k38 x3 x4 x5 M) := by
  unfold f_X9_raise_h38_b
  refine fr_ite ?_ ?_
  · refine fr_ite ?_ ?_
    · first | exact fr_some hM | exact fr_ck (fr_some hM)
    · first | exact fr_some hM | exact fr_ck (fr_some hM)
  · refine fr_bindV (fr_sub (fr_X9_copy _ _ _ _) (by decide)) hM (fun r15 hr15 => ?_)
    exact fr_X9_raise_h55 _ _ _ _ hk38 _ _ _ _ _ _ hr15

theorem fr_X9_raise_h38 (F : Nat) (a0 : Int32) (a1 : Int32)  {M0 : gM}  : ∀ (n : Nat) (x3 : Int32) (x4 : Int32) (x5 : Int32) (M : gM) (hM : ag fS_X9_raise M0 M) , Fr fS_X9_raise M0 rMW (f_X9_raise_h38 F a0 a1  n x3 x4 x5 M) := by
  intro n
  induction n with
  | zero =>
    intro x3 x4 x5 M hM  r hr
    have hr2 : (none : Option (Int32 × gM)) = some r := hr
    cases hr2
  | succ n ih =>
    intro x3 x4 x5 M hM 
    exact fr_X9_raise_h38_b _ _ _   _ ih x3 x4 x5 M hM 
theorem fr_X9_raise (F : Nat) (a0 : Int32) (a1 : Int32) (M : gM) : Fr fS_X9_raise M rMW (f_X9_raise F a0 a1 M) := by
  unfold f_X9_raise
  refine fr_bind (fun r16 => ?_)
  refine fr_ite ?_ ?_
  · first | exact fr_some ag_rf | exact fr_ck (fr_some ag_rf)
  · refine fr_bind (fun r17 => ?_)
    refine fr_ite ?_ ?_
    · first | exact fr_some ag_rf | exact fr_ck (fr_some ag_rf)
    · refine fr_bindV (fr_sub (fr_X9_findAllSets _ _ _) (by decide)) ag_rf (fun r18 hr18 => ?_)
      exact fr_X9_raise_h38 _ _ _ _ _ _ _ _ hr18

abbrev fS_X9_rent  : List Nat := [111, 112, 113, 114, 115]
theorem fr_X9_rent (F : Nat) (a0 : Int32) (M : gM) : Fr fS_X9_rent M rMW (f_X9_rent F a0 M) := by
  unfold f_X9_rent
  refine fr_bind (fun r4 => ?_)
  refine fr_ite ?_ ?_
  · first | exact fr_some ag_rf | exact fr_ck (fr_some ag_rf)
  · refine fr_bindV (fr_sub (fr_X9_findAllSets _ _ _) (by decide)) ag_rf (fun r5 hr5 => ?_)
    refine fr_bindW (fr_sub (fr_X9_rentIn _ _ _ _) (by decide)) hr5 (fun r6 hr6 => ?_)
    first | exact fr_some hr6 | exact fr_ck (fr_some hr6)

abbrev fS_X9_see  : List Nat := [95, 116, 117]
theorem fr_X9_see (a0 : Int32) (a1 : Int32) (M : gM) : Fr fS_X9_see M rMW (f_X9_see a0 a1 M) := by
  unfold f_X9_see
  refine fr_bind (fun r6 => ?_)
  refine fr_ite ?_ ?_
  · first | exact fr_some ag_rf | exact fr_ck (fr_some ag_rf)
  · refine fr_bind (fun r7 => ?_)
    refine fr_ite ?_ ?_
    · first | exact fr_some ag_rf | exact fr_ck (fr_some ag_rf)
    · refine fr_ite ?_ ?_
      · first | exact fr_some ag_rf | exact fr_ck (fr_some ag_rf)
      · refine fr_ck ?_
        refine fr_ltM ag_rf (by decide) (fun N8 hN8 => ?_)
        refine fr_ck ?_
        refine fr_ltM hN8 (by decide) (fun N9 hN9 => ?_)
        refine fr_ltM hN9 (by decide) (fun N10 hN10 => ?_)
        first | exact fr_some hN10 | exact fr_ck (fr_some hN10)

abbrev fS_X9_seed  : List Nat := [96]
theorem fr_X9_seed (a0 : Int32) (M : gM) : Fr fS_X9_seed M rMW (f_X9_seed a0 M) := by
  unfold f_X9_seed
  refine fr_ite ?_ ?_
  · refine fr_ck ?_
    refine fr_lt (fun w3 => ?_)
    refine fr_ck ?_
    refine fr_ltM ag_rf (by decide) (fun N4 hN4 => ?_)
    first | exact fr_some hN4 | exact fr_ck (fr_some hN4)
  · first | exact fr_some ag_rf | exact fr_ck (fr_some ag_rf)

abbrev fS_X9_want  : List Nat := [95]
theorem fr_X9_want_b21 (a0 : Int32) (a1 : Int32) (a2 : Int32)  {M0 : gM}   (M : gM) (hM : ag fS_X9_want M0 M)  : Fr fS_X9_want M0 rMW (f_X9_want_b21 a0 a1 a2   M) := by
  unfold f_X9_want_b21
  refine fr_ite ?_ ?_
  · first | exact fr_some hM | exact fr_ck (fr_some hM)
  · first | exact fr_some hM | exact fr_ck (fr_some hM)

theorem fr_X9_want (a0 : Int32) (a1 : Int32) (a2 : Int32) (M : gM) : Fr fS_X9_want M rMW (f_X9_want a0 a1 a2 M) := by
  unfold f_X9_want
  refine fr_ite ?_ ?_
  · refine fr_ite ?_ ?_
    · refine fr_ltM ag_rf (by decide) (fun N3 hN3 => ?_)
      refine fr_ltM hN3 (by decide) (fun N4 hN4 => ?_)
      exact fr_X9_want_b21 _ _ _ _ hN4
    · exact fr_X9_want_b21 _ _ _ _ ag_rf
  · exact fr_X9_want_b21 _ _ _ _ ag_rf

abbrev fS_X9_takeNumber  : List Nat := [95]
theorem fr_X9_takeNumber_b160 (F : Nat) (a0 : Int32) (a1 : Int32)  {M0 : gM}  (x4 : Int32) (s0 : Int32) (M : gM) (hM : ag fS_X9_takeNumber M0 M)  : Fr fS_X9_takeNumber M0 rMW (f_X9_takeNumber_b160 F a0 a1  x4 s0 M) := by
  unfold f_X9_takeNumber_b160
  refine fr_bindW (fr_sub (fr_X9_want _ _ _ _) (by decide)) hM (fun r11 hr11 => ?_)
  refine fr_lt (fun w12 => ?_)
  first | exact fr_some hr11 | exact fr_ck (fr_some hr11)

theorem fr_X9_takeNumber_b159 (F : Nat) (a0 : Int32) (a1 : Int32)  {M0 : gM}  (x4 : Int32) (M : gM) (hM : ag fS_X9_takeNumber M0 M)  : Fr fS_X9_takeNumber M0 rMW (f_X9_takeNumber_b159 F a0 a1  x4 M) := by
  unfold f_X9_takeNumber_b159
  exact fr_X9_takeNumber_b160 _ _ _ _ _ _ hM

theorem fr_X9_takeNumber_b128 (F : Nat) (a0 : Int32) (a1 : Int32)  {M0 : gM}  (x4 : Int32) (M : gM) (hM : ag fS_X9_takeNumber M0 M)  : Fr fS_X9_takeNumber M0 rMW (f_X9_takeNumber_b128 F a0 a1  x4 M) := by
  unfold f_X9_takeNumber_b128
  refine fr_ite ?_ ?_
  · exact fr_X9_takeNumber_b159 _ _ _ _ _ hM
  · refine fr_bind (fun r13 => ?_)
    refine fr_ite ?_ ?_
    · exact fr_X9_takeNumber_b159 _ _ _ _ _ hM
    · exact fr_X9_takeNumber_b160 _ _ _ _ _ _ hM

theorem fr_X9_takeNumber_b113 (F : Nat) (a0 : Int32) (a1 : Int32) (k50 : Int32 → gM → Option (Int32 × gM)) {M0 : gM} (hk50 : ∀ (x4 : Int32) (M : gM) (hM : ag fS_X9_takeNumber M0 M) , Fr fS_X9_takeNumber M0 rMW (k50 x4 M)) (s0 : Int32) (M : gM) (hM : ag fS_X9_takeNumber M0 M)  : Fr fS_X9_takeNumber M0 rMW (f_X9_takeNumber_b113 F a0 a1 k50 s0 M) := by
  unfold f_X9_takeNumber_b113
  refine fr_ltM hM (by decide) (fun N14 hN14 => ?_)
  exact hk50 _ _ hN14

theorem fr_X9_takeNumber_h50_b (F : Nat) (a0 : Int32) (a1 : Int32)  {M0 : gM}  (k50 : Int32 → gM → Option (Int32 × gM)) (hk50 : ∀ (x4 : Int32) (M : gM) (hM : ag fS_X9_takeNumber M0 M) , Fr fS_X9_takeNumber M0 rMW (k50 x4 M)) (x4 : Int32) (M : gM) (hM : ag fS_X9_takeNumber M0 M)  : Fr fS_X9_takeNumber M0 rMW (f_X9_takeNumber_h50_b F a0 a1  k50 x4 M) := by
  unfold f_X9_takeNumber_h50_b
  refine fr_ite ?_ ?_
  · exact fr_X9_takeNumber_b128 _ _ _ _ _ hM
  · refine fr_ck ?_
    refine fr_bind (fun r15 => ?_)
    refine fr_ite ?_ ?_
    · exact fr_X9_takeNumber_b128 _ _ _ _ _ hM
    · refine fr_ite ?_ ?_
      · refine fr_ck ?_
        exact fr_X9_takeNumber_b113 _ _ _ _ hk50 _ _ hM
      · exact fr_X9_takeNumber_b113 _ _ _ _ hk50 _ _ hM

theorem fr_X9_takeNumber_h50 (F : Nat) (a0 : Int32) (a1 : Int32)  {M0 : gM}  : ∀ (n : Nat) (x4 : Int32) (M : gM) (hM : ag fS_X9_takeNumber M0 M) , Fr fS_X9_takeNumber M0 rMW (f_X9_takeNumber_h50 F a0 a1  n x4 M) := by
  intro n
  induction n with
  | zero =>
    intro x4 M hM  r hr
    have hr2 : (none : Option (Int32 × gM)) = some r := hr
    cases hr2
  | succ n ih =>
    intro x4 M hM 
    exact fr_X9_takeNumber_h50_b _ _ _   _ ih x4 M hM 
theorem fr_X9_takeNumber (F : Nat) (a0 : Int32) (a1 : Int32) (M : gM) : Fr fS_X9_takeNumber M rMW (f_X9_takeNumber F a0 a1 M) := by
  unfold f_X9_takeNumber
  refine fr_ite ?_ ?_
  · refine fr_bindW (fr_sub (fr_X9_here _ _) (by decide)) ag_rf (fun r16 hr16 => ?_)
    refine fr_lt (fun w17 => ?_)
    refine fr_ltM hr16 (by decide) (fun N18 hN18 => ?_)
    refine fr_bind (fun r19 => ?_)
    refine fr_bindW (fr_sub (fr_X9_want _ _ _ _) (by decide)) hN18 (fun r20 hr20 => ?_)
    refine fr_ite ?_ ?_
    · first | exact fr_some hr20 | exact fr_ck (fr_some hr20)
    · exact fr_X9_takeNumber_h50 _ _ _ _ _ _ hr20
  · first | exact fr_some ag_rf | exact fr_ck (fr_some ag_rf)

abbrev fS_X9_takeClash  : List Nat := [95, 104, 108]
theorem fr_X9_takeClash_b62 (F : Nat)  {M0 : gM}  (x1 : Int32) (x2 : Int32) (s0 : Int32) (M : gM) (hM : ag fS_X9_takeClash M0 M)  : Fr fS_X9_takeClash M0 rMV (f_X9_takeClash_b62 F  x1 x2 s0 M) := by
  unfold f_X9_takeClash_b62
  refine fr_bindW (fr_sub (fr_X9_want _ _ _ _) (by decide)) hM (fun r10 hr10 => ?_)
  refine fr_ite ?_ ?_
  · exact fr_some hr10
  · refine fr_ck ?_
    refine fr_ck ?_
    refine fr_ltM hr10 (by decide) (fun N11 hN11 => ?_)
    refine fr_ck ?_
    refine fr_ck ?_
    refine fr_ltM hN11 (by decide) (fun N12 hN12 => ?_)
    refine fr_ck ?_
    refine fr_ck ?_
    refine fr_ltM hN12 (by decide) (fun N13 hN13 => ?_)
    exact fr_some hN13

theorem fr_X9_takeClash_b61 (F : Nat)  {M0 : gM}  (x1 : Int32) (x2 : Int32) (M : gM) (hM : ag fS_X9_takeClash M0 M)  : Fr fS_X9_takeClash M0 rMV (f_X9_takeClash_b61 F  x1 x2 M) := by
  unfold f_X9_takeClash_b61
  exact fr_X9_takeClash_b62 _ _ _ _ _ hM

theorem fr_X9_takeClash (F : Nat) (M : gM) : Fr fS_X9_takeClash M rMV (f_X9_takeClash F M) := by
  unfold f_X9_takeClash
  refine fr_ck ?_
  refine fr_bindW (fr_sub (fr_X9_takeNumber _ _ _ _) (by decide)) ag_rf (fun r14 hr14 => ?_)
  refine fr_lt (fun w15 => ?_)
  refine fr_ck ?_
  refine fr_bindW (fr_sub (fr_X9_takeNumber _ _ _ _) (by decide)) hr14 (fun r16 hr16 => ?_)
  refine fr_lt (fun w17 => ?_)
  refine fr_ite ?_ ?_
  · refine fr_ite ?_ ?_
    · exact fr_X9_takeClash_b61 _ _ _ _ hr16
    · refine fr_ck ?_
      refine fr_bind (fun r18 => ?_)
      refine fr_ite ?_ ?_
      · exact fr_X9_takeClash_b62 _ _ _ _ _ hr16
      · exact fr_X9_takeClash_b61 _ _ _ _ hr16
  · exact fr_some hr16

abbrev fS_X9_takeWord  : List Nat := [95]
theorem fr_X9_takeWord_b59 (F : Nat)  {M0 : gM}   (M : gM) (hM : ag fS_X9_takeWord M0 M)  : Fr fS_X9_takeWord M0 rMV (f_X9_takeWord_b59 F   M) := by
  unfold f_X9_takeWord_b59
  refine fr_ltM hM (by decide) (fun N7 hN7 => ?_)
  exact fr_some hN7

theorem fr_X9_takeWord_h13_b (F : Nat)  {M0 : gM}  (k13 : gM → Option gM) (hk13 : ∀  (M : gM) (hM : ag fS_X9_takeWord M0 M) , Fr fS_X9_takeWord M0 rMV (k13  M))  (M : gM) (hM : ag fS_X9_takeWord M0 M)  : Fr fS_X9_takeWord M0 rMV (f_X9_takeWord_h13_b F  k13  M) := by
  unfold f_X9_takeWord_h13_b
  refine fr_ite ?_ ?_
  · exact fr_X9_takeWord_b59 _ _ hM
  · refine fr_ck ?_
    refine fr_bind (fun r8 => ?_)
    refine fr_ite ?_ ?_
    · exact fr_X9_takeWord_b59 _ _ hM
    · refine fr_ltM hM (by decide) (fun N9 hN9 => ?_)
      exact hk13 _ hN9

theorem fr_X9_takeWord_h13 (F : Nat)  {M0 : gM}  : ∀ (n : Nat)  (M : gM) (hM : ag fS_X9_takeWord M0 M) , Fr fS_X9_takeWord M0 rMV (f_X9_takeWord_h13 F  n  M) := by
  intro n
  induction n with
  | zero =>
    intro  M hM  r hr
    have hr2 : (none : Option gM) = some r := hr
    cases hr2
  | succ n ih =>
    intro  M hM 
    exact fr_X9_takeWord_h13_b _   _ ih  M hM 
theorem fr_X9_takeWord (F : Nat) (M : gM) : Fr fS_X9_takeWord M rMV (f_X9_takeWord F M) := by
  unfold f_X9_takeWord
  refine fr_bindW (fr_sub (fr_X9_here _ _) (by decide)) ag_rf (fun r10 hr10 => ?_)
  refine fr_lt (fun w11 => ?_)
  refine fr_ltM hr10 (by decide) (fun N12 hN12 => ?_)
  exact fr_X9_takeWord_h13 _ _ _ hN12

abbrev fS_X9_takePart  : List Nat := [95, 98, 99, 100, 101, 102, 103, 104, 108]
theorem fr_X9_takePart_b194 (F : Nat)  {M0 : gM}  (x1 : Int32) (s0 : Int32) (M : gM) (hM : ag fS_X9_takePart M0 M)  : Fr fS_X9_takePart M0 rMV (f_X9_takePart_b194 F  x1 s0 M) := by
  unfold f_X9_takePart_b194
  refine fr_bindW (fr_sub (fr_X9_want _ _ _ _) (by decide)) hM (fun r23 hr23 => ?_)
  refine fr_lt (fun w24 => ?_)
  refine fr_ck ?_
  refine fr_ltM hr23 (by decide) (fun N25 hN25 => ?_)
  refine fr_ck ?_
  refine fr_ck ?_
  refine fr_ltM hN25 (by decide) (fun N26 hN26 => ?_)
  exact fr_some hN26

theorem fr_X9_takePart_b100 (F : Nat)  {M0 : gM}  (x1 : Int32) (s0 : Int32) (M : gM) (hM : ag fS_X9_takePart M0 M)  : Fr fS_X9_takePart M0 rMV (f_X9_takePart_b100 F  x1 s0 M) := by
  unfold f_X9_takePart_b100
  refine fr_bindW (fr_sub (fr_X9_want _ _ _ _) (by decide)) hM (fun r27 hr27 => ?_)
  refine fr_lt (fun w28 => ?_)
  refine fr_bindW (fr_sub (fr_X9_takeNumber _ _ _ _) (by decide)) hr27 (fun r29 hr29 => ?_)
  refine fr_ck ?_
  refine fr_ltM hr29 (by decide) (fun N30 hN30 => ?_)
  refine fr_bindW (fr_sub (fr_X9_takeNumber _ _ _ _) (by decide)) hN30 (fun r31 hr31 => ?_)
  refine fr_ck ?_
  refine fr_ltM hr31 (by decide) (fun N32 hN32 => ?_)
  refine fr_bindW (fr_sub (fr_X9_takeNumber _ _ _ _) (by decide)) hN32 (fun r33 hr33 => ?_)
  refine fr_ck ?_
  refine fr_ltM hr33 (by decide) (fun N34 hN34 => ?_)
  refine fr_bindW (fr_sub (fr_X9_takeNumber _ _ _ _) (by decide)) hN34 (fun r35 hr35 => ?_)
  refine fr_ck ?_
  refine fr_ltM hr35 (by decide) (fun N36 hN36 => ?_)
  refine fr_bindW (fr_sub (fr_X9_takeNumber _ _ _ _) (by decide)) hN36 (fun r37 hr37 => ?_)
  refine fr_ck ?_
  refine fr_ltM hr37 (by decide) (fun N38 hN38 => ?_)
  refine fr_ck ?_
  refine fr_ck ?_
  refine fr_ite ?_ ?_
  · exact fr_X9_takePart_b194 _ _ _ _ hN38
  · exact fr_X9_takePart_b194 _ _ _ _ hN38

theorem fr_X9_takePart_b84 (F : Nat)  {M0 : gM}  (x1 : Int32) (s0 : Int32) (s1 : Int32) (M : gM) (hM : ag fS_X9_takePart M0 M)  : Fr fS_X9_takePart M0 rMV (f_X9_takePart_b84 F  x1 s0 s1 M) := by
  unfold f_X9_takePart_b84
  refine fr_ck ?_
  refine fr_ltM hM (by decide) (fun N39 hN39 => ?_)
  refine fr_ck ?_
  refine fr_ite ?_ ?_
  · exact fr_X9_takePart_b100 _ _ _ _ hN39
  · exact fr_X9_takePart_b100 _ _ _ _ hN39

theorem fr_X9_takePart (F : Nat) (M : gM) : Fr fS_X9_takePart M rMV (f_X9_takePart F M) := by
  unfold f_X9_takePart
  refine fr_bindV (fr_sub (fr_X9_takeWord _ _) (by decide)) ag_rf (fun r40 hr40 => ?_)
  refine fr_ck ?_
  refine fr_lt (fun w41 => ?_)
  refine fr_bind (fun r42 => ?_)
  refine fr_ite ?_ ?_
  · refine fr_bind (fun r43 => ?_)
    refine fr_ite ?_ ?_
    · refine fr_bind (fun r44 => ?_)
      refine fr_ite ?_ ?_
      · exact fr_X9_takePart_b84 _ _ _ _ _ hr40
      · exact fr_X9_takePart_b84 _ _ _ _ _ hr40
    · exact fr_X9_takePart_b84 _ _ _ _ _ hr40
  · exact fr_X9_takePart_b84 _ _ _ _ _ hr40

abbrev fS_X9_takeScene  : List Nat := [95, 105, 106, 107, 108]
theorem fr_X9_takeScene_b71 (F : Nat)  {M0 : gM}  (s0 : Int32) (M : gM) (hM : ag fS_X9_takeScene M0 M)  : Fr fS_X9_takeScene M0 rMV (f_X9_takeScene_b71 F  s0 M) := by
  unfold f_X9_takeScene_b71
  refine fr_bindW (fr_sub (fr_X9_want _ _ _ _) (by decide)) hM (fun r11 hr11 => ?_)
  refine fr_lt (fun w12 => ?_)
  refine fr_ck ?_
  refine fr_ck ?_
  refine fr_ltM hr11 (by decide) (fun N13 hN13 => ?_)
  exact fr_some hN13

theorem fr_X9_takeScene (F : Nat) (M : gM) : Fr fS_X9_takeScene M rMV (f_X9_takeScene F M) := by
  unfold f_X9_takeScene
  refine fr_ck ?_
  refine fr_lt (fun w14 => ?_)
  refine fr_bindW (fr_sub (fr_X9_takeNumber _ _ _ _) (by decide)) ag_rf (fun r15 hr15 => ?_)
  refine fr_ck ?_
  refine fr_ltM hr15 (by decide) (fun N16 hN16 => ?_)
  refine fr_bindW (fr_sub (fr_X9_takeNumber _ _ _ _) (by decide)) hN16 (fun r17 hr17 => ?_)
  refine fr_ck ?_
  refine fr_ltM hr17 (by decide) (fun N18 hN18 => ?_)
  refine fr_bindW (fr_sub (fr_X9_takeNumber _ _ _ _) (by decide)) hN18 (fun r19 hr19 => ?_)
  refine fr_ck ?_
  refine fr_ltM hr19 (by decide) (fun N20 hN20 => ?_)
  refine fr_ck ?_
  refine fr_ck ?_
  refine fr_ite ?_ ?_
  · exact fr_X9_takeScene_b71 _ _ _ hN20
  · exact fr_X9_takeScene_b71 _ _ _ hN20

abbrev fS_X9_takeClause  : List Nat := [95, 98, 99, 100, 101, 102, 103, 104, 105, 106, 107, 108]
theorem fr_X9_takeClause_b150 (F : Nat)  {M0 : gM}  (x1 : Int32) (s0 : Int32) (M : gM) (hM : ag fS_X9_takeClause M0 M)  : Fr fS_X9_takeClause M0 rMV (f_X9_takeClause_b150 F  x1 s0 M) := by
  unfold f_X9_takeClause_b150
  refine fr_bindW (fr_sub (fr_X9_want _ _ _ _) (by decide)) hM (fun r13 hr13 => ?_)
  refine fr_ite ?_ ?_
  · exact fr_some hr13
  · refine fr_bindV (fr_sub (fr_X9_takeScene _ _) (by decide)) hr13 (fun r14 hr14 => ?_)
    exact fr_some hr14

theorem fr_X9_takeClause_b93 (F : Nat)  {M0 : gM}  (x1 : Int32) (s0 : Int32) (M : gM) (hM : ag fS_X9_takeClause M0 M)  : Fr fS_X9_takeClause M0 rMV (f_X9_takeClause_b93 F  x1 s0 M) := by
  unfold f_X9_takeClause_b93
  refine fr_bindW (fr_sub (fr_X9_want _ _ _ _) (by decide)) hM (fun r15 hr15 => ?_)
  refine fr_ite ?_ ?_
  · exact fr_some hr15
  · refine fr_bindV (fr_sub (fr_X9_takeClash _ _) (by decide)) hr15 (fun r16 hr16 => ?_)
    exact fr_some hr16

theorem fr_X9_takeClause_b43 (F : Nat)  {M0 : gM}  (x1 : Int32) (s0 : Int32) (M : gM) (hM : ag fS_X9_takeClause M0 M)  : Fr fS_X9_takeClause M0 rMV (f_X9_takeClause_b43 F  x1 s0 M) := by
  unfold f_X9_takeClause_b43
  refine fr_bindW (fr_sub (fr_X9_want _ _ _ _) (by decide)) hM (fun r17 hr17 => ?_)
  refine fr_ite ?_ ?_
  · exact fr_some hr17
  · refine fr_bindV (fr_sub (fr_X9_takePart _ _) (by decide)) hr17 (fun r18 hr18 => ?_)
    exact fr_some hr18

theorem fr_X9_takeClause (F : Nat) (M : gM) : Fr fS_X9_takeClause M rMV (f_X9_takeClause F M) := by
  unfold f_X9_takeClause
  refine fr_bindV (fr_sub (fr_X9_takeWord _ _) (by decide)) ag_rf (fun r19 hr19 => ?_)
  refine fr_lt (fun w20 => ?_)
  refine fr_bind (fun r21 => ?_)
  refine fr_ite ?_ ?_
  · refine fr_bind (fun r22 => ?_)
    refine fr_ite ?_ ?_
    · refine fr_bind (fun r23 => ?_)
      refine fr_bindW (fr_sub (fr_X9_want _ _ _ _) (by decide)) hr19 (fun r24 hr24 => ?_)
      refine fr_ite ?_ ?_
      · exact fr_some hr24
      · refine fr_ck ?_
        refine fr_ite ?_ ?_
        · exact fr_X9_takeClause_b150 _ _ _ _ hr24
        · exact fr_X9_takeClause_b150 _ _ _ _ hr24
    · refine fr_ck ?_
      refine fr_ite ?_ ?_
      · exact fr_X9_takeClause_b93 _ _ _ _ hr19
      · exact fr_X9_takeClause_b93 _ _ _ _ hr19
  · refine fr_ck ?_
    refine fr_ite ?_ ?_
    · exact fr_X9_takeClause_b43 _ _ _ _ hr19
    · exact fr_X9_takeClause_b43 _ _ _ _ hr19

abbrev fS_X9_tear  : List Nat := [95]
theorem fr_X9_tear  (M : gM) : Fr fS_X9_tear M rMW (f_X9_tear  M) := by
  unfold f_X9_tear
  refine fr_lt (fun w4 => ?_)
  refine fr_ltM ag_rf (by decide) (fun N5 hN5 => ?_)
  refine fr_ltM hN5 (by decide) (fun N6 hN6 => ?_)
  first | exact fr_some hN6 | exact fr_ck (fr_some hN6)

abbrev fS_X9_town  : List Nat := [95, 96, 97, 98, 99, 100, 101, 102, 103, 104, 105, 106, 107, 108, 110]
theorem fr_X9_town_h280_b (F : Nat)  {M0 : gM}  (k280 : Int32 → gM → Option (Int32 × gM)) (hk280 : ∀ (x1 : Int32) (M : gM) (hM : ag fS_X9_town M0 M) , Fr fS_X9_town M0 rMW (k280 x1 M)) (x1 : Int32) (M : gM) (hM : ag fS_X9_town M0 M)  : Fr fS_X9_town M0 rMW (f_X9_town_h280_b F  k280 x1 M) := by
  unfold f_X9_town_h280_b
  refine fr_ite ?_ ?_
  · refine fr_ck ?_
    refine fr_ltM hM (by decide) (fun N33 hN33 => ?_)
    refine fr_ck ?_
    refine fr_ltM hN33 (by decide) (fun N34 hN34 => ?_)
    refine fr_ltM hN34 (by decide) (fun N35 hN35 => ?_)
    refine fr_ltM hN35 (by decide) (fun N36 hN36 => ?_)
    refine fr_ck ?_
    refine fr_ltM hN36 (by decide) (fun N37 hN37 => ?_)
    refine fr_ck ?_
    refine fr_ltM hN37 (by decide) (fun N38 hN38 => ?_)
    refine fr_bindV (fr_sub (fr_X9_findLooks _ _) (by decide)) hN38 (fun r39 hr39 => ?_)
    refine fr_ck ?_
    first | exact fr_some hr39 | exact fr_ck (fr_some hr39)
  · refine fr_ck ?_
    refine fr_ck ?_
    refine fr_ltM hM (by decide) (fun N40 hN40 => ?_)
    refine fr_ck ?_
    refine fr_ck ?_
    refine fr_ltM hN40 (by decide) (fun N41 hN41 => ?_)
    refine fr_ck ?_
    refine fr_ck ?_
    refine fr_ltM hN41 (by decide) (fun N42 hN42 => ?_)
    exact hk280 _ _ hN42

theorem fr_X9_town_h280 (F : Nat)  {M0 : gM}  : ∀ (n : Nat) (x1 : Int32) (M : gM) (hM : ag fS_X9_town M0 M) , Fr fS_X9_town M0 rMW (f_X9_town_h280 F  n x1 M) := by
  intro n
  induction n with
  | zero =>
    intro x1 M hM  r hr
    have hr2 : (none : Option (Int32 × gM)) = some r := hr
    cases hr2
  | succ n ih =>
    intro x1 M hM 
    exact fr_X9_town_h280_b _   _ ih x1 M hM 
theorem fr_X9_town_h148_b (F : Nat)  {M0 : gM}  (k148 : Int32 → gM → Option (Int32 × gM)) (hk148 : ∀ (x1 : Int32) (M : gM) (hM : ag fS_X9_town M0 M) , Fr fS_X9_town M0 rMW (k148 x1 M)) (x1 : Int32) (M : gM) (hM : ag fS_X9_town M0 M)  : Fr fS_X9_town M0 rMW (f_X9_town_h148_b F  k148 x1 M) := by
  unfold f_X9_town_h148_b
  refine fr_ite ?_ ?_
  · exact fr_X9_town_h280 _ _ _ _ hM
  · refine fr_ck ?_
    refine fr_ck ?_
    refine fr_ltM hM (by decide) (fun N43 hN43 => ?_)
    refine fr_ck ?_
    refine fr_ck ?_
    refine fr_ltM hN43 (by decide) (fun N44 hN44 => ?_)
    refine fr_ck ?_
    refine fr_ck ?_
    refine fr_ltM hN44 (by decide) (fun N45 hN45 => ?_)
    refine fr_ck ?_
    refine fr_ck ?_
    refine fr_ltM hN45 (by decide) (fun N46 hN46 => ?_)
    refine fr_ck ?_
    refine fr_ck ?_
    refine fr_ltM hN46 (by decide) (fun N47 hN47 => ?_)
    refine fr_ck ?_
    refine fr_ck ?_
    refine fr_ltM hN47 (by decide) (fun N48 hN48 => ?_)
    refine fr_ck ?_
    refine fr_ck ?_
    refine fr_ltM hN48 (by decide) (fun N49 hN49 => ?_)
    refine fr_ck ?_
    refine fr_ltM hN49 (by decide) (fun N50 hN50 => ?_)
    exact hk148 _ _ hN50

theorem fr_X9_town_h148 (F : Nat)  {M0 : gM}  : ∀ (n : Nat) (x1 : Int32) (M : gM) (hM : ag fS_X9_town M0 M) , Fr fS_X9_town M0 rMW (f_X9_town_h148 F  n x1 M) := by
  intro n
  induction n with
  | zero =>
    intro x1 M hM  r hr
    have hr2 : (none : Option (Int32 × gM)) = some r := hr
    cases hr2
  | succ n ih =>
    intro x1 M hM 
    exact fr_X9_town_h148_b _   _ ih x1 M hM 
theorem fr_X9_town_b101 (F : Nat)  {M0 : gM}   (M : gM) (hM : ag fS_X9_town M0 M)  : Fr fS_X9_town M0 rMW (f_X9_town_b101 F   M) := by
  unfold f_X9_town_b101
  refine fr_ltM hM (by decide) (fun N51 hN51 => ?_)
  refine fr_ite ?_ ?_
  · refine fr_ck ?_
    refine fr_ck ?_
    refine fr_ltM hN51 (by decide) (fun N52 hN52 => ?_)
    refine fr_ck ?_
    refine fr_ck ?_
    refine fr_ltM hN52 (by decide) (fun N53 hN53 => ?_)
    exact fr_X9_town_h148 _ _ _ _ hN53
  · first | exact fr_some hN51 | exact fr_ck (fr_some hN51)

theorem fr_X9_town_b77 (F : Nat) (k37 : gM → Option (Int32 × gM)) {M0 : gM} (hk37 : ∀  (M : gM) (hM : ag fS_X9_town M0 M) , Fr fS_X9_town M0 rMW (k37  M)) (s0 : Int32) (M : gM) (hM : ag fS_X9_town M0 M)  : Fr fS_X9_town M0 rMW (f_X9_town_b77 F k37 s0 M) := by
  unfold f_X9_town_b77
  refine fr_bindW (fr_sub (fr_X9_want _ _ _ _) (by decide)) hM (fun r54 hr54 => ?_)
  refine fr_ite ?_ ?_
  · exact hk37 _ hr54
  · refine fr_ltM hr54 (by decide) (fun N55 hN55 => ?_)
    exact hk37 _ hN55

theorem fr_X9_town_h37_b (F : Nat)  {M0 : gM}  (k37 : gM → Option (Int32 × gM)) (hk37 : ∀  (M : gM) (hM : ag fS_X9_town M0 M) , Fr fS_X9_town M0 rMW (k37  M))  (M : gM) (hM : ag fS_X9_town M0 M)  : Fr fS_X9_town M0 rMW (f_X9_town_h37_b F  k37  M) := by
  unfold f_X9_town_h37_b
  refine fr_ite ?_ ?_
  · refine fr_bindW (fr_sub (fr_X9_here _ _) (by decide)) hM (fun r56 hr56 => ?_)
    refine fr_ite ?_ ?_
    · exact fr_X9_town_b101 _ _ hr56
    · refine fr_bindV (fr_sub (fr_X9_takeClause _ _) (by decide)) hr56 (fun r57 hr57 => ?_)
      refine fr_ite ?_ ?_
      · refine fr_bindW (fr_sub (fr_X9_here _ _) (by decide)) hr57 (fun r58 hr58 => ?_)
        refine fr_ite ?_ ?_
        · exact fr_X9_town_b77 _ _ hk37 _ _ hr58
        · exact fr_X9_town_b77 _ _ hk37 _ _ hr58
      · exact hk37 _ hr57
  · exact fr_X9_town_b101 _ _ hM

theorem fr_X9_town_h37 (F : Nat)  {M0 : gM}  : ∀ (n : Nat)  (M : gM) (hM : ag fS_X9_town M0 M) , Fr fS_X9_town M0 rMW (f_X9_town_h37 F  n  M) := by
  intro n
  induction n with
  | zero =>
    intro  M hM  r hr
    have hr2 : (none : Option (Int32 × gM)) = some r := hr
    cases hr2
  | succ n ih =>
    intro  M hM 
    exact fr_X9_town_h37_b _   _ ih  M hM 
theorem fr_X9_town (F : Nat) (M : gM) : Fr fS_X9_town M rMW (f_X9_town F M) := by
  unfold f_X9_town
  refine fr_ltM ag_rf (by decide) (fun N59 hN59 => ?_)
  refine fr_ltM hN59 (by decide) (fun N60 hN60 => ?_)
  refine fr_ltM hN60 (by decide) (fun N61 hN61 => ?_)
  refine fr_ck ?_
  refine fr_ltM hN61 (by decide) (fun N62 hN62 => ?_)
  refine fr_ck ?_
  refine fr_ltM hN62 (by decide) (fun N63 hN63 => ?_)
  refine fr_ck ?_
  refine fr_ltM hN63 (by decide) (fun N64 hN64 => ?_)
  exact fr_X9_town_h37 _ _ _ hN64

abbrev fS_X9_width  : List Nat := [96]
theorem fr_X9_width (a0 : Int32) (a1 : Int32) (M : gM) : Fr fS_X9_width M rMW (f_X9_width a0 a1 M) := by
  unfold f_X9_width
  refine fr_bind (fun r5 => ?_)
  refine fr_ite ?_ ?_
  · first | exact fr_some ag_rf | exact fr_ck (fr_some ag_rf)
  · refine fr_bind (fun r6 => ?_)
    refine fr_ite ?_ ?_
    · first | exact fr_some ag_rf | exact fr_ck (fr_some ag_rf)
    · refine fr_ck ?_
      refine fr_lt (fun w7 => ?_)
      refine fr_ck ?_
      refine fr_ltM ag_rf (by decide) (fun N8 hN8 => ?_)
      first | exact fr_some hN8 | exact fr_ck (fr_some hN8)

abbrev fS_X9_without  : List Nat := [95, 111, 112, 113, 114]
theorem fr_X9_without_b53 (F : Nat) (a0 : Int32) (k23 : Int32 → Int32 → gM → Option (Int32 × gM)) {M0 : gM} (hk23 : ∀ (x2 : Int32) (x3 : Int32) (M : gM) (hM : ag fS_X9_without M0 M) , Fr fS_X9_without M0 rMW (k23 x2 x3 M)) (x2 : Int32) (x3 : Int32) (s0 : Int32) (s1 : Int32) (M : gM) (hM : ag fS_X9_without M0 M)  : Fr fS_X9_without M0 rMW (f_X9_without_b53 F a0 k23 x2 x3 s0 s1 M) := by
  unfold f_X9_without_b53
  refine fr_bind (fun r9 => ?_)
  refine fr_ltM hM (by decide) (fun N10 hN10 => ?_)
  exact hk23 _ _ _ hN10

theorem fr_X9_without_h23_b (F : Nat) (a0 : Int32)  {M0 : gM}  (k23 : Int32 → Int32 → gM → Option (Int32 × gM)) (hk23 : ∀ (x2 : Int32) (x3 : Int32) (M : gM) (hM : ag fS_X9_without M0 M) , Fr fS_X9_without M0 rMW (k23 x2 x3 M)) (x2 : Int32) (x3 : Int32) (M : gM) (hM : ag fS_X9_without M0 M)  : Fr fS_X9_without M0 rMW (f_X9_without_h23_b F a0  k23 x2 x3 M) := by
  unfold f_X9_without_h23_b
  refine fr_ck ?_
  refine fr_ite ?_ ?_
  · refine fr_bindW (fr_sub (fr_X9_leastIn _ _ _) (by decide)) hM (fun r11 hr11 => ?_)
    refine fr_lt (fun w12 => ?_)
    refine fr_ltM hr11 (by decide) (fun N13 hN13 => ?_)
    refine fr_ite ?_ ?_
    · first | exact fr_some hN13 | exact fr_ck (fr_some hN13)
    · refine fr_ite ?_ ?_
      · first | exact fr_some hN13 | exact fr_ck (fr_some hN13)
      · first | exact fr_some hN13 | exact fr_ck (fr_some hN13)
  · refine fr_ck ?_
    refine fr_ite ?_ ?_
    · exact fr_X9_without_b53 _ _ _ hk23 _ _ _ _ _ hM
    · exact fr_X9_without_b53 _ _ _ hk23 _ _ _ _ _ hM

theorem fr_X9_without_h23 (F : Nat) (a0 : Int32)  {M0 : gM}  : ∀ (n : Nat) (x2 : Int32) (x3 : Int32) (M : gM) (hM : ag fS_X9_without M0 M) , Fr fS_X9_without M0 rMW (f_X9_without_h23 F a0  n x2 x3 M) := by
  intro n
  induction n with
  | zero =>
    intro x2 x3 M hM  r hr
    have hr2 : (none : Option (Int32 × gM)) = some r := hr
    cases hr2
  | succ n ih =>
    intro x2 x3 M hM 
    exact fr_X9_without_h23_b _ _   _ ih x2 x3 M hM 
theorem fr_X9_without (F : Nat) (a0 : Int32) (M : gM) : Fr fS_X9_without M rMW (f_X9_without F a0 M) := by
  unfold f_X9_without
  refine fr_bind (fun r14 => ?_)
  refine fr_ite ?_ ?_
  · first | exact fr_some ag_rf | exact fr_ck (fr_some ag_rf)
  · refine fr_bindW (fr_sub (fr_X9_leastIn _ _ _) (by decide)) ag_rf (fun r15 hr15 => ?_)
    refine fr_lt (fun w16 => ?_)
    exact fr_X9_without_h23 _ _ _ _ _ _ hr15

abbrev fS_X9_write  : List Nat := [95, 118, 119]
theorem fr_X9_write (a0 : Int32) (a1 : Int32) (M : gM) : Fr fS_X9_write M rMW (f_X9_write a0 a1 M) := by
  unfold f_X9_write
  refine fr_bind (fun r6 => ?_)
  refine fr_ite ?_ ?_
  · first | exact fr_some ag_rf | exact fr_ck (fr_some ag_rf)
  · refine fr_bind (fun r7 => ?_)
    refine fr_ite ?_ ?_
    · first | exact fr_some ag_rf | exact fr_ck (fr_some ag_rf)
    · refine fr_ite ?_ ?_
      · first | exact fr_some ag_rf | exact fr_ck (fr_some ag_rf)
      · refine fr_ck ?_
        refine fr_ltM ag_rf (by decide) (fun N8 hN8 => ?_)
        refine fr_ck ?_
        refine fr_ltM hN8 (by decide) (fun N9 hN9 => ?_)
        refine fr_ltM hN9 (by decide) (fun N10 hN10 => ?_)
        first | exact fr_some hN10 | exact fr_ck (fr_some hN10)

