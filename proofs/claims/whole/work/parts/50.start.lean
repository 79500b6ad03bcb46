theorem nstF_in : ∀ q ∈ nstF, Cond.fieldLinkNest q.1 q.2.1 q.2.2.1 q.2.2.2.1 q.2.2.2.2.1 q.2.2.2.2.2 ∈ lw_tbl := by
  have h : nstF.map (fun q => Cond.fieldLinkNest q.1 q.2.1 q.2.2.1 q.2.2.2.1 q.2.2.2.2.1 q.2.2.2.2.2) = ([33, 34, 48, 50, 52, 54, 56, 58, 60, 62, 63, 64, 66, 67, 69, 70, 72, 73, 74, 75, 77, 78, 80, 81, 121, 142, 143, 145, 146, 148, 150, 152, 154, 156, 184, 185, 186, 216, 218, 220, 251, 273] : List Nat).filterMap (fun i => tables_1[i]?) := by decide +kernel
  intro q hq
  have h1 : Cond.fieldLinkNest q.1 q.2.1 q.2.2.1 q.2.2.2.1 q.2.2.2.2.1 q.2.2.2.2.2 ∈ nstF.map (fun q => Cond.fieldLinkNest q.1 q.2.1 q.2.2.1 q.2.2.2.1 q.2.2.2.2.1 q.2.2.2.2.2) := List.mem_map.mpr ⟨q, hq, rfl⟩
  rw [h] at h1
  obtain ⟨i, -, hi⟩ := List.mem_filterMap.mp h1
  exact List.mem_append_right _ (List.mem_of_getElem? hi)
theorem nstM_in : ∀ q ∈ nstM, Cond.methodLinkNest q.1 q.2.1 q.2.2.1 q.2.2.2 ∈ lw_tbl := by
  have h : nstM.map (fun q => Cond.methodLinkNest q.1 q.2.1 q.2.2.1 q.2.2.2) = ([27, 43, 111, 137, 174, 203, 242, 265, 332, 340, 344, 352, 360, 366, 437, 445, 449, 462, 466, 469, 478, 482, 486, 492, 496, 497, 505, 509, 519, 531, 536, 541, 547, 555, 556, 557, 577, 581, 582, 603, 612, 617, 618, 619, 620, 633, 648, 652, 664, 669, 687, 688, 696, 704, 708, 713, 714, 715, 724, 736, 740, 752, 768, 780, 784, 804] : List Nat).filterMap (fun i => tables_1[i]?) := by decide +kernel
  intro q hq
  have h1 : Cond.methodLinkNest q.1 q.2.1 q.2.2.1 q.2.2.2 ∈ nstM.map (fun q => Cond.methodLinkNest q.1 q.2.1 q.2.2.1 q.2.2.2) := List.mem_map.mpr ⟨q, hq, rfl⟩
  rw [h] at h1
  obtain ⟨i, -, hi⟩ := List.mem_filterMap.mp h1
  exact List.mem_append_right _ (List.mem_of_getElem? hi)
theorem str_in : ∀ i, i < 6 → Cond.stringRef RX3 (gSix.getD i 0) (gStx.getD i "") ∈ lw_tbl := lt_s (lt_s (lt_s (lt_s (lt_s (lt_s (lt_0) (gwN2 (i := 125) (by decide +kernel))) (gwN2 (i := 217) (by decide +kernel))) (gwN2 (i := 233) (by decide +kernel))) (gwN2 (i := 190) (by decide +kernel))) (gwN2 (i := 191) (by decide +kernel))) (gwN2 (i := 192) (by decide +kernel))
theorem wLc : Cond.laysStatic "java/lang/String" "COMPACT_STRINGS" "Z" ∈ lw_tbl := gwN2 (i := 139) (by decide +kernel)
theorem wLp : Cond.laysStatic "jdk/internal/util/Preconditions" "SIOOBE_FORMATTER" "Ljava/util/function/BiFunction;" ∈ lw_tbl := gwN2 (i := 155) (by decide +kernel)
theorem wAO : Cond.arrayOver (.array .int) ∈ lw_tbl := gwN1 (i := 208) (by decide +kernel)
abbrev gFl : List Cond := flatC (Jvm.Cond.and given_1 narrow_1)
abbrev gTm (i : Nat) : Term := .string "RentedLooks$Reader" (gSix.getD i 0)
theorem st_ex : ∀ i, i < 6 → Cond.exactly (gTm i) "java/lang/String" ∈ gFl := by decide +kernel
theorem st_co : ∀ i, i < 6 → Cond.eq (.field (gTm i) "java/lang/String" "coder" "B") (.int 0) ∈ gFl := by decide +kernel
theorem st_ar : ∀ i, i < 6 → Cond.arrayOf (.field (gTm i) "java/lang/String" "value" "[B") .byte ∈ gFl := by decide +kernel
theorem st_le : ∀ i, i < 6 → Cond.eq (.length (.field (gTm i) "java/lang/String" "value" "[B")) (.int (Int32.ofNat (gLen.getD i 0))) ∈ gFl := by decide +kernel
theorem st_el : ∀ i, i < 6 → ∀ j, j < gLen.getD i 0 → Cond.eq (.elem (.field (gTm i) "java/lang/String" "value" "[B") (.int (Int32.ofNat j))) (.int ((gByt.getD i []).getD j 0)) ∈ gFl := by decide +kernel
theorem st_ne : ∀ i, i < 6 → ∀ j, j < 6 → i ≠ j → Cond.not (.eq (gTm i) (gTm j)) ∈ gFl ∨ Cond.not (.eq (gTm j) (gTm i)) ∈ gFl := by decide +kernel
theorem st_len : ∀ i, i < 6 → gLen.getD i 0 < 2 ^ 31 := by decide +kernel
theorem st_cs : Cond.eq (.static "java/lang/String" "COMPACT_STRINGS" "Z") (.int 1) ∈ gFl := by decide +kernel
theorem st_si : Cond.isRef (.static "jdk/internal/util/Preconditions" "SIOOBE_FORMATTER" "Ljava/util/function/BiFunction;") ∈ gFl := by decide +kernel
theorem gJ_start {b : Nat} {s : State} (hgv : (Jvm.Cond.and given_1 narrow_1).before #[Value.ref b] s = true) (hts : ∀ w ∈ lw_tbl, w.before #[Value.ref b] s = true) : ∃ K V : Nat → Nat, gJ K V (fun q : Nat => s.heap.size ≤ q) s s.heap := by
  have hf := flat_of_before _ hgv
  have hA : ∀ a : Nat, a < s.heap.size → ¬ (fun q : Nat => s.heap.size ≤ q) a := fun a h => Nat.not_le.mpr h
  obtain ⟨K, V, hS, hR⟩ := vk_Sof (N := 6) (tm := gTm) (len := gLen) (byt := gByt) (A := fun q : Nat => s.heap.size ≤ q) st_len (fun i hi => hf _ (st_ex i hi)) (fun i hi => hf _ (st_co i hi)) (fun i hi => hf _ (st_ar i hi)) (fun i hi => hf _ (st_le i hi)) (fun i hi j hj => hf _ (st_el i hi j hj)) (fun i j hi hj n => (st_ne i hi j hj n).imp (hf _) (hf _)) hA
  refine ⟨K, V, hS, fun i hi => vk_R.of (hts _ (str_in i hi)) (hR i hi), ?_, ?_⟩
  · exact va_Zof (hts _ wLc) (hts _ (ws0_in wi_J0)) (va_eqi (hf _ st_cs)) hA
  · exact va_Zqof (hts _ wLp) (hts _ (ws0_in wi_J3)) (hf _ st_si) hA
section LCT
variable {p : Program} {l : Launch} {e : Env} {R : Room} {s : State} {m : MethodId} {args : Array Value} {below : List Frame} {meth : Method} {c : Code} {H : Heap} {locs : List Loc} {cells slots : Nat} {Q : State → Prop} {D : va_G} {cs : ClassId × ClassId × ClassId} {cc : ByteArray} {own : String} {nL pc : Nat} {ls : Array Slot} {stk : List Value} {Wd : va_W}
/-- the law calls a constructor on the object at place k of the world Wd -/
theorem law_ctor {σ : Type} {y : MethodName} {cd : ByteArray} {maxL fr1 lo1 mc1 ms1 ix k h cj : Nat} {fs1 : σ → List Value} {L1 : ClassId × ClassId × ClassId → σ → va_W} (hx : p.tables.exec = Jvm.exec) (hb : c.code = cc) (hml : c.maxLocals = nL) (hown : s.vm.findClass own = some m.cls) (h0 : ∀ w ∈ ws0, w.before args s = true) (hN : gNst s) (hK : va_K D vwCl (gtys cs) s) (hAO : va_AOA .int s)
    (hct : kCt y cd maxL fr1 lo1 mc1 ms1 [.ref h] Wd k h cj fs1 L1) (hyn : y.name = "<init>") (hcw : Cond.code y cd maxL none ∈ ws0) (hwi : Cond.instanceMethod y ∈ ws0) (hw0 : Cond.initialized y.cls ∈ ws0) (hwm : Cond.methodLink own ix y ∈ ws0) (hy : y.cls ≠ "java/lang/invoke/MethodHandle" ∧ y.cls ≠ "java/lang/invoke/VarHandle" ∧ (parseMethodDescriptor y.desc).map (fun d => d.parameters.length) = some 0) (hR : fr1 + 1 ≤ R.frames ∧ 8 + (maxL + 11) + lo1 ≤ R.locals) (hr8 : (stk.map fun v => v.category).sum ≤ 8) (hc1 : cells + mc1 ≤ R.cells) (hc2 : slots + ms1 ≤ R.slots) (hd : decode cc pc = .ok (.invokespecial ix, 3))
    (hP : va_P D vwCl Wd H) (hD : va_D (fun q : Nat => s.heap.size ≤ q) Wd) (hS : va_S (fun q : Nat => s.heap.size ≤ q) s.heap H locs) (hls : ls.size = nL)
    (kk : ∀ (u : σ) (H1 : Heap) (locs1 : List Loc), va_P D vwCl (kW Wd k h cj (fs1 u) (L1 cs u)) H1 → va_D (fun q : Nat => s.heap.size ≤ q) (kW Wd k h cj (fs1 u) (L1 cs u)) → va_S (fun q : Nat => s.heap.size ≤ q) s.heap H1 locs1 → W p l e R s m args below meth c H1 locs1 (cells + mc1) (slots + ms1) Q (F0 m (pc + 3) ls stk)) : W p l e R s m args below meth c H locs cells slots Q (F0 m pc ls (.ref h :: stk)) := by
  intro T hT XS
  have hm := hct l D cs H.size
  have hrun := va_runI (e := e) (below := below) (meth := meth) (locs := locs) (cells := cells) (slots := slots) (g := F0 m pc ls (.ref h :: stk)) (As := []) (rest := stk) ⟨hx, hb, hml, hown, h0⟩ hm ⟨callB_of 0 h0 (gws' h0 hcw) rfl rfl rfl (h0 _ hw0) (h0 _ hwm) hy hR, hyn, h0 _ hwi⟩ ⟨by
      intro a U g mk hq
      obtain ⟨q0, q1, q2, q3, q4, q5, q6⟩ := hq
      exact ⟨q0, q1, q2, va_K.moved (u := U) (U := U.calling g mk a) (Vm.Alike.refl U.vm) q3, q4, gNst.same (s := U) (U := U.calling g mk a) rfl q5, va_AOA.moved (u := U) (U := U.calling g mk a) (Vm.Alike.refl U.vm) q6⟩, fun U hU hW => ⟨rfl, by rw [hU], by rw [hU]; exact hP, va_K.moved hW.alike hK, hD.weaken (fun _ _ _ _ => trivial), hN.warm hW, hAO.moved hW.alike⟩⟩ rfl rfl hls rfl (lv_room hr8) hd ⟨hc1, hc2⟩
  obtain ⟨v, st₀, t, T', Lx, e0, X', hLx, e1, e2, ⟨hv, ⟨u, hP1, hD1⟩, hF1⟩, st⟩ := hrun T hT XS
  cases hv
  have hA : ∀ q, va_A Wd H.size q → s.heap.size ≤ q := by
    intro q hq
    rcases hq with ⟨i, e, hi⟩ | hq
    · exact hD.2 i _ hi
    · exact Nat.le_trans hS.1 hq
  have hS1 : va_S (fun q : Nat => s.heap.size ≤ q) s.heap t.heap (locs ++ Lx) := by
    refine ⟨Nat.le_trans hS.1 (by rw [← e0]; exact hF1.1), fun q h1 h2 => ?_, fun q hq => ?_⟩
    · rw [hF1.2 q (by rw [e0]; exact Nat.lt_of_lt_of_le h1 hS.1) (fun z => h2 (hA q z)), e0]
      exact hS.2.1 q h1 h2
    · rcases List.mem_append.mp hq with h | h
      · exact hS.2.2 q h
      · exact hA _ (hLx q h)
  obtain ⟨t2, a1, b1⟩ := kk u t.heap (locs ++ Lx) hP1 (hD1.weaken (fun _ q _ hq => hA q.1 hq)) hS1 T' e1 X'
  exact ⟨t2, st t2 a1, b1⟩
end LCT
set_option maxHeartbeats 4000000 in
set_option maxRecDepth 100000 in
/-- the claim's walk, out of the pure statement -/
theorem start_open (HP : ∀ (L : Nat) (sc : Nat → Int32), L ≤ 2048 → ∃ F, f_L_law_h18 F L sc F 0 gM0 = some 1) {p : Program} {e : Env} {s : State} {m : MethodId} {below : List Frame} {meth : Method} {c : Code} (l : Launch) {b L : Nat} {sc : Nat → Int32} (hL : L ≤ 2048) (C0 : lw_At p s m meth c b L sc) : W p l e room_1 s m #[Value.ref b] below meth c s.heap [] 0 0 (lw_Z below #[Value.ref b] s) (entryFrame m ([Value.ref b] : List Value).toArray 4) := by
  obtain ⟨hx, hb, hr, hml, hown, hts, hX, hbl, hlocks, hgv⟩ := C0
  have hown : s.vm.findClass RL = some m.cls := hown
  have hb : c.code = cL_law := hb
  have hA : ∀ q : Nat, s.heap.size ≤ q → (fun q : Nat => s.heap.size ≤ q) q := fun _ h => h
  have hbA : ¬ (fun q : Nat => s.heap.size ≤ q) b := Nat.not_le.mpr hbl
  have h0 : ∀ w ∈ ws0, w.before #[Value.ref b] s = true := fun w h => hts w (ws0_in h)
  obtain ⟨c0, i0, hKn0⟩ := u_known (C := RX0) (T := TX0) (N := 4) (n := 4) h0 inX0 (h0 _ wn_X0)
  obtain ⟨c1, i1, hKn1⟩ := u_known (C := RX1) (T := TX1) (N := 9) (n := 9) h0 inX1 (h0 _ wn_X1)
  obtain ⟨c2, i2, hKn2⟩ := u_known (C := RX2) (T := TX2) (N := 6) (n := 6) h0 inX2 (h0 _ wn_X2)
  obtain ⟨c3, i3, hKn3⟩ := u_known (C := RX3) (T := TX3) (N := 6) (n := 6) h0 inX3 (h0 _ wn_X3)
  obtain ⟨c4, i4, hKn4⟩ := u_known (C := RX4) (T := TX4) (N := 5) (n := 5) h0 inX4 (h0 _ wn_X4)
  obtain ⟨c5, i5, hKn5⟩ := u_known (C := RX5) (T := TX5) (N := 7) (n := 7) h0 inX5 (h0 _ wn_X5)
  obtain ⟨c6, i6, hKn6⟩ := u_known (C := RX6) (T := TX6) (N := 2) (n := 2) h0 inX6 (h0 _ wn_X6)
  obtain ⟨c7, i7, hKn7⟩ := u_known (C := RX7) (T := TX7) (N := 13) (n := 13) h0 inX7 (h0 _ wn_X7)
  obtain ⟨c8, i8, hKn8⟩ := u_known (C := RX8) (T := TX8) (N := 14) (n := 14) h0 inX8 (h0 _ wn_X8)
  obtain ⟨c9, i9, hKn9⟩ := u_known (C := RX9) (T := TX9) (N := 34) (n := 34) h0 inX9 (h0 _ wn_X9)
  obtain ⟨cI, kI, compI, a1, a2, a3⟩ := Cond.arrayClass_spec (h0 _ wa_int)
  obtain ⟨cZ, kZ, compZ, b1, b2, b3⟩ := Cond.arrayClass_spec (h0 _ wa_boolean)
  have hAO : va_AOA .int s := va_AOA.of (hts _ wAO)
  obtain ⟨compR, cR, kR, r1, r2, r3, r4, r5⟩ := va_AOA_spec hAO
  obtain ⟨D, hKc⟩ : ∃ D : va_G, ∀ (k : Nat) (q : vw_C), vwCl[k]? = some q → u_Kn s q.1 q.2.1 q.2.2 (D.1 k) (D.2 k) := by
    refine ⟨(fun k => [c0, c1, c2, c3, c4, c5, c6, c7, c8, c9].getD k c0, fun k => [i0, i1, i2, i3, i4, i5, i6, i7, i8, i9].getD k i0), ?_⟩
    intro k q hq
    match k, hq with
    | 0, hq => cases hq; exact hKn0
    | 1, hq => cases hq; exact hKn1
    | 2, hq => cases hq; exact hKn2
    | 3, hq => cases hq; exact hKn3
    | 4, hq => cases hq; exact hKn4
    | 5, hq => cases hq; exact hKn5
    | 6, hq => cases hq; exact hKn6
    | 7, hq => cases hq; exact hKn7
    | 8, hq => cases hq; exact hKn8
    | 9, hq => cases hq; exact hKn9
    | k + 10, hq =>
      have h2 : (none : Option vw_C) = some q := hq
      cases h2
  have hK : va_K D vwCl (gtys (cI, cZ, cR)) s := by
    refine ⟨hKc, fun k q hq => ?_⟩
    match k, hq with
    | 0, hq => cases hq; exact ⟨fun n z => ⟨fun k h => (by cases h), kI, a2, compI, a3⟩, a1⟩
    | 1, hq => cases hq; exact ⟨fun n z => ⟨fun k h => (by cases h), kZ, b2, compZ, b3⟩, b1⟩
    | 2, hq => cases hq; exact ⟨fun n z => ⟨fun k h => (by cases h), kR, r3, compR, r4⟩, r5⟩
    | k + 3, hq =>
      have h2 : (none : Option (ClassId × FieldType)) = some q := hq
      cases h2
  have hN : gNst s := ⟨fun q hq => va_Nw.of rfl (hts _ (nstF_in q hq)), fun q hq => va_Nw.of rfl (hts _ (nstM_in q hq))⟩
  obtain ⟨K, V, hJ⟩ := gJ_start hgv hts
  obtain ⟨F, hF⟩ := HP L sc hL
  have hS : va_S (fun q : Nat => s.heap.size ≤ q) s.heap s.heap [] := va_S.rf
  have hP : va_P D vwCl [] s.heap := fun k q h => by simp at h
  have hD : va_D (fun q : Nat => s.heap.size ≤ q) [] := ⟨fun i j p q h => by simp at h, fun k q h => by simp at h⟩
  have hl := lv_entry ([.ref b]) (n := 4) (Nat.le_of_ble_eq_true rfl)
  rw [lg_entry_eq]
  generalize (lg_sl ([.ref b]) ++ List.replicate (4 - (lg_sl ([.ref b])).length) Slot.unset).toArray = ls at hl ⊢
  have hl : lv_has ls 4 [(0, .ref b)] := hl
  refine va_new (ci := 8) (fs := [.null, .null, .null, .null, .null, .null, .null, .null, .null, .null, .null, .null, .null, .int 0]) (C := RX8) (T := TX8) (N := 14) hx hb h0 inX8 tyX8 tyX8_ok hown (h0 _ wc_L_7) (h0 _ wn_X8) (h0 _ wi_X8) hK hP hD hS hA rfl (by decide) (Nat.le_of_ble_eq_true rfl) (Nat.le_of_ble_eq_true rfl) dL_law_0 (fun x0 H hP hD hS => ?_)
  refine lv_dup hx hb dL_law_3 rfl ?_
  refine law_ctor (Wd := [(x0, .inr (8, [.null, .null, .null, .null, .null, .null, .null, .null, .null, .null, .null, .null, .null, .int 0]))]) hx hb hml hown h0 hN hK hAO (c_X8_init (k := 0) rfl) rfl wC_X8_init wI_X8_init wi_X8 wm_L_9 hy_X8_init ⟨Nat.le_of_ble_eq_true rfl, Nat.le_of_ble_eq_true rfl⟩ (Nat.le_of_ble_eq_true rfl) (Nat.le_of_ble_eq_true rfl) (Nat.le_of_ble_eq_true rfl) dL_law_4 hP hD hS hl.1 (fun u H locs hP hD hS => ?_)
  have hP : va_P D vwCl ((x0, .inr (8, kf_X8 u)) :: kl_X8 (cI, cZ, cR) u) H := hP
  have hD : va_D (fun q : Nat => s.heap.size ≤ q) ((x0, .inr (8, kf_X8 u)) :: kl_X8 (cI, cZ, cR) u) := hD
  refine lv_astore_n (lv' := [(1, .ref x0), (0, .ref b)]) hx hb dL_law_7 rfl hl (by decide) rfl (fun ls hl => ?_)
  refine va_new (ci := 9) (fs := [.null, .null, .null, .null, .null, .null, .null, .null, .null, .null, .null, .null, .null, .null, .int 0, .int 0, .int 0, .int 0, .int 0, .int 0, .null, .int 0, .int 0, .null, .null, .null, .null, .null, .null, .null, .int 0, .null, .null, .int 0]) (C := RX9) (T := TX9) (N := 34) hx hb h0 inX9 tyX9 tyX9_ok hown (h0 _ wc_L_10) (h0 _ wn_X9) (h0 _ wi_X9) hK hP hD hS hA rfl (by decide) (Nat.le_of_ble_eq_true rfl) (Nat.le_of_ble_eq_true rfl) dL_law_8 (fun m0 H hP hD hS => ?_)
  refine lv_dup hx hb dL_law_11 rfl ?_
  refine law_ctor hx hb hml hown h0 hN hK hAO (c_X9_init gl_last) rfl wC_X9_init wI_X9_init wi_X9 wm_L_12 hy_X9_init ⟨Nat.le_of_ble_eq_true rfl, Nat.le_of_ble_eq_true rfl⟩ (Nat.le_of_ble_eq_true rfl) (Nat.le_of_ble_eq_true rfl) (Nat.le_of_ble_eq_true rfl) dL_law_12 hP hD hS hl.1 (fun v H locs hP hD hS => ?_)
  unfold kW at hP hD
  rw [gl_set] at hP hD
  have hP : va_P D vwCl (gWL (cI, cZ, cR) x0 m0 u v) H := hP
  have hD : va_D (fun q : Nat => s.heap.size ≤ q) (gWL (cI, cZ, cR) x0 m0 u v) := hD
  rw [gWL_flat] at hP hD
  have hG := gwl_of hP
  obtain ⟨hI, hAd⟩ := gInj_of hD
  refine lv_astore_n (lv' := [(2, .ref m0), (1, .ref x0), (0, .ref b)]) hx hb dL_law_15 rfl hl (by decide) rfl (fun ls hl => ?_)
  refine lv_iconst (v := 0) hx hb dL_law_16 (by decide) ?_
  refine lv_istore_n (lv' := [(3, .int 0), (2, .ref m0), (1, .ref x0), (0, .ref b)]) hx hb dL_law_17 rfl hl (by decide) rfl (fun ls hl => ?_)
  have hl := lv_sub (l' := [(0, .ref b), (1, .ref x0), (2, .ref m0), (3, .int 0)]) hl [3, 2, 1, 0] rfl
  refine W.eq (g2 := F0 m 18 ls []) rfl ?_
  generalize hce : 0 + 1 + 94 + 1 + 24 = ce
  generalize hsl : 0 + 14 + 3500 + 34 + 28602 = sl
  have C : gC (p, l, e, room_1, s, m, #[Value.ref b], below, meth, c, D, gAd x0 m0 u v, (cI, cZ, cR), (fun q : Nat => s.heap.size ≤ q), ce, sl, K, V) cL_law RL 4 ret 9 211 :=
    ⟨hx, hb, hml, hr, hlocks, hown, h0, hN, hK, hI, hAd, ⟨Nat.le_of_ble_eq_true rfl, Nat.le_of_ble_eq_true rfl⟩, ⟨by rw [← hce]; exact Nat.le_of_ble_eq_true rfl, by rw [← hsl]; exact Nat.le_of_ble_eq_true rfl⟩, hJ⟩
  have HX : gSc (p, l, e, room_1, s, m, #[Value.ref b], below, meth, c, D, gAd x0 m0 u v, (cI, cZ, cR), (fun q : Nat => s.heap.size ≤ q), ce, sl, K, V) b L sc := ⟨hX, hbl, hbA⟩
  have hG2 := g_L_law_h18 C F L sc (Q := fun _ => lw_Z below #[Value.ref b] s) HX (by
    intro M lv r hr2 H locs ls hP hS hl
    refine va_forget (fun q hq => hS.2.2 q hq) ?_
    refine W.widen (k := 600000) (n := 7302250) (by show ce ≤ _; rw [← hce]; exact Nat.le_of_ble_eq_true rfl) (by show sl ≤ _; rw [← hsl]; exact Nat.le_of_ble_eq_true rfl) ?_
    exact lw_ret hx hb hr hlocks dL_law_911) F 0 gM0
  exact hG2 1 hF H locs ls hG hS hl
