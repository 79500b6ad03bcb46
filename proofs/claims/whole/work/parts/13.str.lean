/-! the six words of the texts: String.length, String.charAt on them -/
def slen (w : Nat) : Int32 := Int32.ofNat (gLen.getD w 0) >>> ((0 : Int32) &&& 31)
def schar (w : Nat) (j : Int32) : Int32 := (((gByt.getD w []).getD j.toNatClampNeg 0 &&& (255 : Int32)).toUInt32 % 65536).toInt32
section GSTR
variable {ρ σ : Type} {X : gX} {Q : ρ → State → Prop} {nL : Nat} {M : gM} {lv : List (Nat × Value)} {stk stk0 : List Value} {pc : Nat} {o : Option ρ} {cc : ByteArray} {own : String} {ret : Option FieldType} {fr lo : Nat}
theorem g_ldcS (C : gC X cc RX3 nL ret fr lo) {ix w : Nat} {tx : String} (hw : w < 6) (hi : gSix.getD w 0 = ix) (ht : gStx.getD w "" = tx) (hd : decode cc pc = .ok (.ldc ix, 2)) (k : G X Q nL M lv (.ref (xK X w) :: stk) (pc + 2) o) : G X Q nL M lv stk pc o := by
  intro r hr H locs ls hP hS hl
  subst hi
  subst ht
  exact va_ldcS C.x C.b C.ow (C.J.2.1 w hw) hd (k r hr H locs ls hP hS hl)
theorem g_i2c (C : gC X cc own nL ret fr lo) {x : Int32} (hd : decode cc pc = .ok (.i2c, 1)) (k : G X Q nL M lv (.int ((x.toUInt32 % 65536).toInt32) :: stk) (pc + 1) o) : G X Q nL M lv (.int x :: stk) pc o :=
  fun r hr H locs ls hP hS hl => lv_i2c C.x C.b hd rfl (k r hr H locs ls hP hS hl)
/-- a field of one of the words -/
theorem g_sval (C : gC X cc RJ0 nL ret fr lo) {w : Nat} (hw : w < 6) (hd : decode cc pc = .ok (.getfield 9, 3)) (k : G X Q nL M lv (.ref (xV X w) :: stk) (pc + 3) o) : G X Q nL M lv (.ref (xK X w) :: stk) pc o :=
  fun r hr H locs ls hP hS hl => vk_getf C.x C.b (C.J.1.1 w hw).2.2.1 hS C.ow (C.ts _ wf_J0_9) (fun _ h => h) hd (k r hr H locs ls hP hS hl)
theorem g_scod (C : gC X cc RJ0 nL ret fr lo) {w : Nat} (hw : w < 6) (hd : decode cc pc = .ok (.getfield 15, 3)) (k : G X Q nL M lv (.int 0 :: stk) (pc + 3) o) : G X Q nL M lv (.ref (xK X w) :: stk) pc o :=
  fun r hr H locs ls hP hS hl => vk_getf C.x C.b (C.J.1.1 w hw).2.1 hS C.ow (C.ts _ wf_J0_15) (fun _ h => h) hd (k r hr H locs ls hP hS hl)
theorem g_scom (C : gC X cc RJ0 nL ret fr lo) (hd : decode cc pc = .ok (.getstatic 38, 3)) (k : G X Q nL M lv (.int 1 :: stk) (pc + 3) o) : G X Q nL M lv stk pc o :=
  fun r hr H locs ls hP hS hl => va_gets C.x C.b C.J.2.2.1 hS C.ow (C.ts _ wf_J0_38) (fun _ h => h) hd (k r hr H locs ls hP hS hl)
theorem g_sfmt (C : gC X cc RJ0 nL ret fr lo) (hd : decode cc pc = .ok (.getstatic 1053, 3)) (k : ∀ v : Value, (v = .null ∨ ∃ a, v = .ref a) → G X Q nL M lv (v :: stk) (pc + 3) o) : G X Q nL M lv stk pc o := by
  intro r hr H locs ls hP hS hl
  rcases C.J.2.2.2 with h | ⟨t, h⟩
  · exact va_gets C.x C.b h hS C.ow (C.ts _ wf_J0_1053) (fun _ h => h) hd (k .null (Or.inl rfl) r hr H locs ls hP hS hl)
  · exact va_gets C.x C.b h hS C.ow (C.ts _ wf_J0_1053) (fun _ h => h) hd (k (.ref t) (Or.inr ⟨t, rfl⟩) r hr H locs ls hP hS hl)
theorem g_salen (C : gC X cc own nL ret fr lo) {w : Nat} (hw : w < 6) (hd : decode cc pc = .ok (.arraylength, 1)) (k : G X Q nL M lv (.int (Int32.ofNat (gLen.getD w 0)) :: stk) (pc + 1) o) : G X Q nL M lv (.ref (xV X w) :: stk) pc o := by
  intro r hr H locs ls hP hS hl
  obtain ⟨cell, h1, h2, h3, h4, h5, h6, h7⟩ := (C.J.1.1 w hw).2.2.2.kept hS.2.1
  exact W.alen C.x C.b h1 h2 h5 rfl rfl hd (k r hr H locs ls hP hS hl)
theorem g_sbald (C : gC X cc own nL ret fr lo) {w : Nat} {j : Int32} (hw : w < 6) (hd : decode cc pc = .ok (.baload, 1)) (k : G X Q nL M lv (.int ((gByt.getD w []).getD j.toNatClampNeg 0) :: stk) (pc + 1) o) : G X Q nL M lv (.int j :: .ref (xV X w) :: stk) pc (ck (ib j (gLen.getD w 0)) o) := by
  intro r hr H locs ls hP hS hl
  obtain ⟨h1, h2⟩ := ck_some hr
  exact va_tb C.x C.b (C.J.1.1 w hw).2.2.2 hS (ib_in h1) rfl hd (k r h2 H locs ls hP hS hl)
variable {y : MethodName} {cd : ByteArray} {maxL : Nat} {ret1 : Option FieldType} {fr1 lo1 : Nat} {rv : (Nat → Nat) → σ → Option Value} {rM : σ → gM} {o1 : Option σ} {As : List Value} {ix n w : Nat}
/-- a call on one of the words -/
theorem g_runVK (C : gC X cc own nL ret fr lo) {av : (Nat → Nat) → (Nat → Nat) → (Nat → Nat) → List Value} (hct : gCt y cd maxL ret1 fr1 lo1 av rv rM M o1) (hav : av (xad X) (xK X) (xV X) = .ref (xK X w) :: As) (hst : stk0 = As.reverse ++ .ref (xK X w) :: stk) (hn : As.length = n) (hw : w < 6) (hcw : Cond.code y cd maxL ret1 ∈ ws0) (hwi : Cond.instanceMethod y ∈ ws0) (hwv : Cond.selects "java/lang/String" y y ∈ ws0) (hw0 : Cond.initialized y.cls ∈ ws0) (hwm : Cond.methodLink own ix y ∈ ws0) (hy : y.cls ≠ "java/lang/invoke/MethodHandle" ∧ y.cls ≠ "java/lang/invoke/VarHandle" ∧ (parseMethodDescriptor y.desc).map (fun d => d.parameters.length) = some n) (hR : fr1 + 1 ≤ fr ∧ 8 + (maxL + 11) + lo1 ≤ lo) (hr8 : (stk.map fun v => v.category).sum ≤ 8) (hd : decode cc pc = .ok (.invokevirtual ix, 3)) : gRun X nL M stk0 stk pc rv rM o1 := by
  intro r hr H locs ls hP hS hl
  subst hst
  have hm := hct (xl X) (xD X) (xad X) (xcs X) (xK X) (xV X) r hr
  rw [hav] at hm
  have cb : CallB (xR X) (xs X) (xargs X) own ix y cd maxL ret1 (Cond.code y cd maxL ret1 :: ws0) { frames := fr1, cells := 0, slots := 0, locals := lo1 } 0 0 n := callB_of n C.ts (gws C hcw) rfl rfl rfl (C.ts _ hw0) (C.ts _ hwm) hy ⟨Nat.le_trans hR.1 C.frm, Nat.le_trans hR.2 C.loc⟩
  exact ⟨_, va_runV ⟨C.x, C.b, C.ml, C.ow, C.ts⟩ hm ⟨cb, C.ts _ hwi, C.ts _ hwv⟩ ⟨gGood.blind, vk_recv C.J.1 hw hS, fun U hU hW => ⟨rfl, gGood.at C hP hS hU hW⟩⟩ rfl hn hl rfl (lv_room hr8) hd ⟨C.ce, C.sl⟩⟩
end GSTR
theorem g_ckp {ρ : Type} {X : gX} {Q : ρ → State → Prop} {nL : Nat} {M : gM} {lv : List (Nat × Value)} {stk : List Value} {pc : Nat} {o : Option ρ} {c : Prop} [Decidable c] (k : c → G X Q nL M lv stk pc o) : G X Q nL M lv stk pc (ck (decide c) o) := by
  intro r hr
  obtain ⟨h1, h2⟩ := ck_some hr
  exact k (of_decide_eq_true h1) r h2
theorem g_none {ρ : Type} {X : gX} {Q : ρ → State → Prop} {nL : Nat} {M : gM} {lv : List (Nat × Value)} {stk : List Value} {pc : Nat} : G X Q nL M lv stk pc (none : Option ρ) := fun r hr => by cases hr
theorem c_J0_coder_7d493 {w : Nat} (hw : w < 6) (M : gM) : gCt yJ0_coder_7d493 cJ0_coder_7d493 1 (some .byte) 0 0 (fun ad K V => [.ref (K w)]) rvR (rMR M) M (if (1 : Int32) = 0 then none else some 0) := by
  refine g_met (y := yJ0_coder_7d493) (by decide +kernel) (fun _ _ _ => Nat.le_of_ble_eq_true rfl) (fun X C => ?_)
  show G X (gQm X rvR (rMR M)) 1 M [(0, .ref (xK X w))] [] 0 _
  refine g_scom (pc := 0) C dJ0_coder_7d493_0 ?_
  refine g_if_eq (pc := 3) (tgt := 13) C dJ0_coder_7d493_3 (by decide) g_none ?_
  refine g_aload_n (pc := 6) C dJ0_coder_7d493_6 rfl 0 rfl ?_
  refine g_scod (pc := 7) C hw dJ0_coder_7d493_7 ?_
  refine g_goto (pc := 10) (tgt := 14) C dJ0_coder_7d493_10 (by decide) ?_
  exact g_nret (pc := 14) C rfl dJ0_coder_7d493_14 rfl rfl
theorem c_J0_length_8abf5 {w : Nat} (hw : w < 6) (M : gM) : gCt yJ0_length_8abf5 cJ0_length_8abf5 1 (some .int) 1 20 (fun ad K V => [.ref (K w)]) rvR (rMR M) M ((if (1 : Int32) = 0 then none else some (0 : Int32)).bind fun r => some (Int32.ofNat (gLen.getD w 0) >>> (r &&& 31))) := by
  refine g_met (y := yJ0_length_8abf5) (by decide +kernel) (fun _ _ _ => Nat.le_of_ble_eq_true rfl) (fun X C => ?_)
  show G X (gQm X rvR (rMR M)) 1 M [(0, .ref (xK X w))] [] 0 _
  refine g_aload_n (pc := 0) C dJ0_length_8abf5_0 rfl 0 rfl ?_
  refine g_sval (pc := 1) C hw dJ0_length_8abf5_1 ?_
  refine g_salen (pc := 4) C hw dJ0_length_8abf5_4 ?_
  refine g_aload_n (pc := 5) C dJ0_length_8abf5_5 rfl 0 rfl ?_
  refine g_callR (pc := 6) C (g_runVK (stk := [.int (Int32.ofNat (gLen.getD w 0))]) C (c_J0_coder_7d493 hw M) rfl rfl rfl hw wC_J0_coder_7d493 wI_J0_coder_7d493 wV_J0_coder_7d493 wi_J0 wm_J0_335 (by decide +kernel) (by decide) (Nat.le_of_ble_eq_true rfl) dJ0_length_8abf5_6) (fun r => ?_)
  refine g_ishr (pc := 9) C dJ0_length_8abf5_9 ?_
  exact g_iret (pc := 10) C dJ0_length_8abf5_10 rfl rfl
theorem c_J0_isLatin1_aae02 {w : Nat} (hw : w < 6) (M : gM) : gCt yJ0_isLatin1_aae02 cJ0_isLatin1_aae02 1 (some .boolean) 0 0 (fun ad K V => [.ref (K w)]) rvR (rMR M) M (if (1 : Int32) = 0 then none else if (0 : Int32) = 0 then some 1 else none) := by
  refine g_met (y := yJ0_isLatin1_aae02) (by decide +kernel) (fun _ _ _ => Nat.le_of_ble_eq_true rfl) (fun X C => ?_)
  show G X (gQm X rvR (rMR M)) 1 M [(0, .ref (xK X w))] [] 0 _
  refine g_scom (pc := 0) C dJ0_isLatin1_aae02_0 ?_
  refine g_if_eq (pc := 3) (tgt := 17) C dJ0_isLatin1_aae02_3 (by decide) g_none ?_
  refine g_aload_n (pc := 6) C dJ0_isLatin1_aae02_6 rfl 0 rfl ?_
  refine g_scod (pc := 7) C hw dJ0_isLatin1_aae02_7 ?_
  refine g_if_ne (pc := 10) (tgt := 17) C dJ0_isLatin1_aae02_10 (by decide) g_none ?_
  refine g_iconst (pc := 13) (v := 1) C dJ0_isLatin1_aae02_13 (by decide) ?_
  refine g_goto (pc := 14) (tgt := 18) C dJ0_isLatin1_aae02_14 (by decide) ?_
  exact g_zretk (pc := 18) C rfl dJ0_isLatin1_aae02_18 rfl rfl
theorem c_J3_checkIndex_8e157 (i n : Int32) {v : Value} (hv : v = .null ∨ ∃ a, v = .ref a) (M : gM) : gCt yJ3_checkIndex_8e157 cJ3_checkIndex_8e157 3 (some .int) 0 0 (fun ad K V => [.int i, .int n, v]) rvR (rMR M) M (if i < 0 then none else if i < n then some i else none) := by
  have hc : v.category = 1 := by rcases hv with rfl | ⟨a, rfl⟩ <;> rfl
  refine g_met (y := yJ3_checkIndex_8e157) (by decide +kernel) (fun _ _ _ => by rcases hv with rfl | ⟨a, rfl⟩ <;> exact Nat.le_of_ble_eq_true rfl) (fun X C => ?_)
  show G X (gQm X rvR (rMR M)) 3 M [(0, .int i), (1, .int n), (2, v)] [] 0 _
  refine g_iload_n (pc := 0) C dJ3_checkIndex_8e157_0 rfl 0 rfl ?_
  refine g_if_lt (pc := 1) (tgt := 9) C dJ3_checkIndex_8e157_1 (by decide) g_none ?_
  refine g_iload_n (pc := 4) C dJ3_checkIndex_8e157_4 rfl 0 rfl ?_
  refine g_iload_n (pc := 5) C dJ3_checkIndex_8e157_5 rfl 1 rfl ?_
  refine g_icmp_lt (pc := 6) (tgt := 16) C dJ3_checkIndex_8e157_6 (by decide) ?_ g_none
  refine g_iload_n (pc := 16) C dJ3_checkIndex_8e157_16 rfl 0 rfl ?_
  exact g_iret (pc := 17) C dJ3_checkIndex_8e157_17 rfl rfl
theorem c_J0_checkIndex_df160 (i n : Int32) (M : gM) : gCt yJ0_checkIndex_df160 cJ0_checkIndex_df160 2 none 1 22 (fun ad K V => [.int i, .int n]) (fun _ (_ : Unit) => none) (rMR M) M ((if i < 0 then none else if i < n then some i else none).bind fun _ => some ()) := by
  refine g_met (y := yJ0_checkIndex_df160) (by decide +kernel) (fun _ _ _ => Nat.le_of_ble_eq_true rfl) (fun X C => ?_)
  show G X (gQm X (fun _ (_ : Unit) => none) (rMR M)) 2 M [(0, .int i), (1, .int n)] [] 0 _
  refine g_iload_n (pc := 0) C dJ0_checkIndex_df160_0 rfl 0 rfl ?_
  refine g_iload_n (pc := 1) C dJ0_checkIndex_df160_1 rfl 1 rfl ?_
  refine g_sfmt (pc := 2) C dJ0_checkIndex_df160_2 (fun v hv => ?_)
  refine g_callR (pc := 5) C (g_runS (n := 3) (stk := []) C (c_J3_checkIndex_8e157 i n hv M) rfl rfl rfl wC_J3_checkIndex_8e157 wS_J3_checkIndex_8e157 wi_J3 wm_J0_1059 (by decide +kernel) (by decide) (Nat.le_of_ble_eq_true rfl) dJ0_checkIndex_df160_5) (fun r => ?_)
  refine g_pop (pc := 8) C dJ0_checkIndex_df160_8 rfl ?_
  exact g_vret (pc := 9) C dJ0_checkIndex_df160_9 rfl rfl
theorem g_callU {ρ : Type} {X : gX} {Q : ρ → State → Prop} {nL : Nat} {M : gM} {lv : List (Nat × Value)} {stk stk0 : List Value} {pc : Nat} {cc : ByteArray} {own : String} {ret : Option FieldType} {fr lo : Nat} (C : gC X cc own nL ret fr lo) {o1 : Option Unit} {f : Unit → Option ρ} (hr : gRun X nL M stk0 stk pc (fun _ _ => none) (fun _ => M) o1) (k : ∀ r : Unit, G X Q nL M lv stk (pc + 3) (f r)) : G X Q nL M lv stk0 pc (o1.bind f) := g_call C hr k
def scho (w : Nat) (j : Int32) : Option Int32 := ((if j < 0 then none else if j < Int32.ofNat (gLen.getD w 0) then some j else none).bind fun _ => some ()).bind fun _ => ck (ib j (gLen.getD w 0)) (some (schar w j))
theorem c_J1_charAt_3b067 {w : Nat} (hw : w < 6) (j : Int32) (M : gM) : gCt yJ1_charAt_3b067 cJ1_charAt_3b067 2 (some .char) 2 43 (fun ad K V => [.ref (V w), .int j]) rvR (rMR M) M (scho w j) := by
  refine g_met (y := yJ1_charAt_3b067) (by decide +kernel) (fun _ _ _ => Nat.le_of_ble_eq_true rfl) (fun X C => ?_)
  show G X (gQm X rvR (rMR M)) 2 M [(0, .ref (xV X w)), (1, .int j)] [] 0 (((if j < 0 then none else if j < Int32.ofNat (gLen.getD w 0) then some j else none).bind fun _ => some ()).bind fun _ => ck (ib j (gLen.getD w 0)) (some (schar w j)))
  refine g_iload_n (pc := 0) C dJ1_charAt_3b067_0 rfl 1 rfl ?_
  refine g_aload_n (pc := 1) C dJ1_charAt_3b067_1 rfl 0 rfl ?_
  refine g_salen (pc := 2) C hw dJ1_charAt_3b067_2 ?_
  refine g_callU (pc := 3) C (g_runS (n := 2) (stk := []) C (c_J0_checkIndex_df160 j (Int32.ofNat (gLen.getD w 0)) M) rfl rfl rfl wC_J0_checkIndex_df160 wS_J0_checkIndex_df160 wi_J0 wm_J1_9 (by decide +kernel) (by decide) (Nat.le_of_ble_eq_true rfl) dJ1_charAt_3b067_3) (fun _ => ?_)
  refine g_aload_n (pc := 6) C dJ1_charAt_3b067_6 rfl 0 rfl ?_
  refine g_iload_n (pc := 7) C dJ1_charAt_3b067_7 rfl 1 rfl ?_
  refine g_sbald (pc := 8) C hw dJ1_charAt_3b067_8 ?_
  refine g_sipush (pc := 9) (v := 255) C dJ1_charAt_3b067_9 (by decide) ?_
  refine g_iand (pc := 12) C dJ1_charAt_3b067_12 ?_
  refine g_i2c (pc := 13) C dJ1_charAt_3b067_13 ?_
  exact g_nret (pc := 14) C (pk_nc _) dJ1_charAt_3b067_14 rfl rfl
theorem c_J0_charAt_5068e {w : Nat} (hw : w < 6) (j : Int32) (M : gM) : gCt yJ0_charAt_5068e cJ0_charAt_5068e 2 (some .char) 3 64 (fun ad K V => [.ref (K w), .int j]) rvR (rMR M) M ((if (1 : Int32) = 0 then none else if (0 : Int32) = 0 then some (1 : Int32) else none).bind fun r => if r = 0 then none else (scho w j).bind fun r2 => ck (decide (narrow .char (.int r2) = .int r2)) (some r2)) := by
  refine g_met (y := yJ0_charAt_5068e) (by decide +kernel) (fun _ _ _ => Nat.le_of_ble_eq_true rfl) (fun X C => ?_)
  show G X (gQm X rvR (rMR M)) 2 M [(0, .ref (xK X w)), (1, .int j)] [] 0 _
  refine g_aload_n (pc := 0) C dJ0_charAt_5068e_0 rfl 0 rfl ?_
  refine g_callR (pc := 1) C (g_runVK (stk := []) C (c_J0_isLatin1_aae02 hw M) rfl rfl rfl hw wC_J0_isLatin1_aae02 wI_J0_isLatin1_aae02 wV_J0_isLatin1_aae02 wi_J0 wm_J0_492 (by decide +kernel) (by decide) (Nat.le_of_ble_eq_true rfl) dJ0_charAt_5068e_1) (fun r => ?_)
  refine g_if_eq (pc := 4) (tgt := 16) C dJ0_charAt_5068e_4 (by decide) g_none ?_
  refine g_aload_n (pc := 7) C dJ0_charAt_5068e_7 rfl 0 rfl ?_
  refine g_sval (pc := 8) C hw dJ0_charAt_5068e_8 ?_
  refine g_iload_n (pc := 11) C dJ0_charAt_5068e_11 rfl 1 rfl ?_
  refine g_callR (pc := 12) C (g_runS (n := 2) (stk := []) C (c_J1_charAt_3b067 hw j M) rfl rfl rfl wC_J1_charAt_3b067 wS_J1_charAt_3b067 wi_J1 wm_J0_495 (by decide +kernel) (by decide) (Nat.le_of_ble_eq_true rfl) dJ0_charAt_5068e_12) (fun r2 => ?_)
  refine g_ckp (fun h => ?_)
  exact g_nret (pc := 15) C h dJ0_charAt_5068e_15 rfl rfl
section GSTR2
variable {ρ : Type} {X : gX} {Q : ρ → State → Prop} {nL : Nat} {M : gM} {lv : List (Nat × Value)} {stk : List Value} {pc : Nat} {o : Option ρ} {cc : ByteArray} {ret : Option FieldType} {fr lo : Nat}
theorem g_slen (C : gC X cc RX6 nL ret fr lo) {w ix : Nat} (hw : w < 6) (hR : 2 ≤ fr ∧ 40 ≤ lo) (hr8 : (stk.map fun v => v.category).sum ≤ 8) (hwm : Cond.methodLink RX6 ix yJ0_length_8abf5 ∈ ws0) (hd : decode cc pc = .ok (.invokevirtual ix, 3)) (k : G X Q nL M lv (.int (slen w) :: stk) (pc + 3) o) : G X Q nL M lv (.ref (xK X w) :: stk) pc o := by
  have h := g_callR (f := fun r => if r = slen w then o else none) (lv := lv) (Q := Q) C (g_runVK (n := 0) (stk := stk) C (c_J0_length_8abf5 hw M) rfl rfl rfl hw wC_J0_length_8abf5 wI_J0_length_8abf5 wV_J0_length_8abf5 wi_J0 hwm (by decide +kernel) hR hr8 hd) (fun r => by
    by_cases e : r = slen w
    · rw [if_pos e, e]
      exact k
    · rw [if_neg e]
      exact g_none)
  have e : ((if (1 : Int32) = 0 then none else some (0 : Int32)).bind (fun r => some (Int32.ofNat (gLen.getD w 0) >>> (r &&& 31)))).bind (fun r => if r = slen w then o else none) = o := by
    show (if slen w = slen w then o else none) = o
    exact if_pos rfl
  rw [e] at h
  exact h
theorem g_schar (C : gC X cc RX6 nL ret fr lo) {w ix : Nat} {j : Int32} (hw : w < 6) (hR : 4 ≤ fr ∧ 85 ≤ lo) (hr8 : (stk.map fun v => v.category).sum ≤ 8) (hwm : Cond.methodLink RX6 ix yJ0_charAt_5068e ∈ ws0) (hd : decode cc pc = .ok (.invokevirtual ix, 3)) (k : G X Q nL M lv (.int (schar w j) :: stk) (pc + 3) o) : G X Q nL M lv (.int j :: .ref (xK X w) :: stk) pc (ck (ib j (gLen.getD w 0)) o) := by
  refine fun r0 hr0 => ?_
  obtain ⟨h1, h2⟩ := ck_some hr0
  have h := g_callR (f := fun r => if r = schar w j then o else none) (lv := lv) (Q := Q) C (g_runVK (n := 1) (As := [.int j]) (stk := stk) C (c_J0_charAt_5068e hw j M) rfl rfl rfl hw wC_J0_charAt_5068e wI_J0_charAt_5068e wV_J0_charAt_5068e wi_J0 hwm (by decide +kernel) hR hr8 hd) (fun r => by
    by_cases e : r = schar w j
    · rw [if_pos e, e]
      exact k
    · rw [if_neg e]
      exact g_none)
  have hb := of_decide_eq_true h1
  have hl : gLen.getD w 0 < 6 := by
    rcases (by omega : w = 0 ∨ w = 1 ∨ w = 2 ∨ w = 3 ∨ w = 4 ∨ w = 5) with rfl | rfl | rfl | rfl | rfl | rfl <;> decide
  have hn : ¬ j < 0 := by
    rw [Int32.lt_iff_toInt_lt, Int32.toInt_zero]
    omega
  have hlt : j < Int32.ofNat (gLen.getD w 0) := by
    rw [Int32.lt_iff_toInt_lt]
    have e2 : (Int32.ofNat (gLen.getD w 0)).toInt = ((gLen.getD w 0 : Nat) : Int) := nI_toInt (n := gLen.getD w 0) (by omega)
    rw [e2]
    omega
  refine h r0 ?_
  have e3 : scho w j = some (schar w j) := by
    unfold scho
    rw [if_neg hn, if_pos hlt]
    show ck (ib j (gLen.getD w 0)) (some (schar w j)) = _
    rw [h1]
    rfl
  have e4 : ck (decide (narrow .char (.int (schar w j)) = .int (schar w j))) (some (schar w j)) = some (schar w j) := by
    have e5 : narrow .char (.int (schar w j)) = .int (schar w j) := pk_nc _
    rw [decide_eq_true e5]
    rfl
  show ((scho w j).bind fun r2 => ck (decide (narrow .char (.int r2) = .int r2)) (some r2)).bind (fun r => if r = schar w j then o else none) = some r0
  rw [e3, Option.bind_some, e4, Option.bind_some, if_pos rfl]
  exact h2
end GSTR2
